import java.util.ArrayList;
import java.util.List;

/** Everything that a small world holds, not a choice of it, with each answer compared with the reference's. */
public final class SmallTest extends SpellerCase {
    /** An object is used for 512 calls at most, and one text of entries takes up to twenty. */
    private static final int TEXTS_OF_ONE_OBJECT = 24;
    /** A text of words takes up to 33. */
    private static final int WORDS_OF_ONE_OBJECT = 12;

    private SmallTest() {
    }

    public static void main(String[] args) {
        textsOfEntries();
        textsOfWords();
        pairsOfRules();
        booksOfThree();
        pasts();
        Check.end();
    }

    private static void write(SoundSpeller x, Reference y, String text) {
        x.clearText();
        y.clearText();
        for (int i = 0; i < text.length(); i++) {
            x.type(text.charAt(i));
            y.type(text.charAt(i));
        }
    }

    private static void enter(SoundSpeller x, Reference y, String entries) {
        write(x, y, entries);
        Check.due("entries " + entries, x.readEntries(), y.readEntries());
    }

    /** All rows of the characters, from the empty one up to those of so many characters. */
    private static List<String> rows(String characters, int most) {
        List<String> all = new ArrayList<>();
        all.add("");
        for (int i = 0; i < all.size(); i++) {
            for (int c = 0; c < characters.length() && all.get(i).length() < most; c++) {
                all.add(all.get(i) + characters.charAt(c));
            }
        }
        return all;
    }

    // ---- each text of a few characters

    private static void textsOfEntries() {
        for (String beginning : new String[] {"", "a=A,", ":aa", "abc", ":abcdefghijk"}) {
            readEach(beginning, rows("aA=_:!,^", beginning.isEmpty() ? 5 : 4));
        }
    }

    private static void readEach(String beginning, List<String> ends) {
        SoundSpeller x = new SoundSpeller();
        Reference y = new Reference();
        for (int i = 0; i < ends.size(); i++) {
            // What was entered would be there already the next time.
            if (i % TEXTS_OF_ONE_OBJECT == 0 || y.count(8) > 0) {
                x = new SoundSpeller();
                y = new Reference();
            }
            enter(x, y, beginning + ends.get(i));
            for (int what = 0; what < 2; what++) {
                Check.due("count(" + what + ") after " + beginning + ends.get(i), x.count(what), y.count(what));
            }
        }
    }

    private static void textsOfWords() {
        for (String beginning : new String[] {"", "abcdefghijk", "abcdefghijklmnopqrstuvw", "aaaaaaaaaaaa aaaaaaaaaaaa'"}) {
            List<String> ends = rows("ab' ", 5);
            SoundSpeller x = new SoundSpeller();
            Reference y = new Reference();
            for (int i = 0; i < ends.size(); i++) {
                if (i % WORDS_OF_ONE_OBJECT == 0) {
                    x = new SoundSpeller();
                    y = new Reference();
                    enter(x, y, "a=A,A=bb,:ab',:ba");
                }
                write(x, y, beginning + ends.get(i));
                Check.due("there " + beginning + ends.get(i), x.convert(false), y.convert(false));
                Check.due("back " + beginning + ends.get(i), x.convert(true), y.convert(true));
            }
        }
    }

    // ---- each two rules, in each order, on words of up to four letters

    private static void pairsOfRules() {
        List<String> rules = new ArrayList<>();
        for (String letters : rows("ab", 2)) {
            for (String side : new String[] {"", "^", "$", "+", "-", "<"}) {
                if (!letters.isEmpty()) {
                    rules.add(letters + "=A" + side);
                    rules.add(letters + "=_" + side);
                }
            }
        }
        for (int i = 0; i < rules.size(); i++) {
            for (int j = 0; j < rules.size(); j++) {
                hear(rules.get(i), rules.get(j).replace('A', 'B'));
            }
        }
    }

    private static void hear(String rule, String other) {
        SoundSpeller x = new SoundSpeller();
        Reference y = new Reference();
        // Twelve words with each neighbour of each letter; the other rule is refused if it has the same letters and side.
        enter(x, y, rule);
        enter(x, y, other);
        enter(x, y, "B=bc,:a,:b,:ab,:ba,:bb,:aba");
        enter(x, y, ":abb,:baa,:aabb,:abab,:baba,:bbab");
        String name = rule + "," + other;
        for (int word = 0; word < 12; word++) {
            for (int index = 0; index <= 4; index++) {
                int at = index;
                for (int what = 1; what <= 3; what += 2) {
                    Check.due(name + " at(" + word + ", " + what + ", " + at + ")", x.at(word, what, at), y.at(word, what, at));
                }
            }
            Check.due(name + " word(" + word + ", 3)", x.word(word, 3), y.word(word, 3));
            Check.due(name + " word(" + word + ", 6)", x.word(word, 6), y.word(word, 6));
        }
        for (int told = 0; told < 2; told++) {
            Check.due(name + " rule(" + told + ", 3)", x.rule(told, 3), y.rule(told, 3));
        }
        Check.due(name + " count(4)", x.count(4), y.count(4));
        Check.due(name + " moveRule(0, 1)", x.moveRule(0, 1), y.moveRule(0, 1));
        Check.due(name + " count(6) then", x.count(6), y.count(6));
    }

    // ---- each three of six words, in each order and of each kind

    private static void booksOfThree() {
        // "c" alone is silent and stays itself, "ac" sounds as "a", and "b" as "a" does.
        String[] words = {"a", "b", "c", "ac", "aa", "d"};
        for (int i = 0; i < words.length; i++) {
            for (int j = 0; j < words.length; j++) {
                for (int k = 0; k < words.length; k++) {
                    if (i != j && j != k && i != k) {
                        kindsOf(words[i], words[j], words[k]);
                    }
                }
            }
        }
    }

    private static void kindsOf(String first, String second, String third) {
        String[] kinds = {"", "!", "'"};
        for (int kind = 0; kind < 27; kind++) {
            collide(":" + first + kinds[kind / 9] + ",:" + second + kinds[kind / 3 % 3] + ",:" + third + kinds[kind % 3]);
        }
    }

    private static void collide(String book) {
        SoundSpeller x = new SoundSpeller();
        Reference y = new Reference();
        enter(x, y, "b=A,A=a,c=_,d=D,D=aa");
        enter(x, y, book);
        tellBook(book, x, y);
        Check.due(book + " collideWith(A, c)", x.collideWith('A', 'c'), y.collideWith('A', 'c'));
        Check.due(book + " collideWith(D, a)", x.collideWith('D', 'a'), y.collideWith('D', 'a'));
        Check.due(book + " markCollisions()", x.markCollisions(), y.markCollisions());
        tellBook(book + " marked", x, y);
        write(x, y, "a a' b b' c c' ac ac' aa aa' d d'");
        Check.due(book + " back", x.convert(true), y.convert(true));
        for (int index = 0; index < y.count(7); index++) {
            Check.due(book + " result(" + index + ")", x.result(index), y.result(index));
        }
    }

    private static void tellBook(String book, SoundSpeller x, Reference y) {
        for (int word = 0; word < 3; word++) {
            for (int what = 0; what < 7; what++) {
                Check.due(book + " word(" + word + ", " + what + ")", x.word(word, what), y.word(word, what));
            }
        }
        for (int what = 2; what < 7; what++) {
            Check.due(book + " count(" + what + ")", x.count(what), y.count(what));
        }
    }

    // ---- each past of six calls

    private static void pasts() {
        for (String past : rows("esmrkuo", 6)) {
            if (past.length() == 6) {
                live(past);
            }
        }
    }

    private static void live(String past) {
        SoundSpeller x = new SoundSpeller();
        Reference y = new Reference();
        write(x, y, "a=A,:a,A=b,:b");
        for (int i = 0; i < past.length(); i++) {
            String call = past.substring(0, i + 1);
            switch (past.charAt(i)) {
                case 'e' -> Check.due(call, x.readEntries(), y.readEntries());
                case 's' -> Check.due(call, x.setKind(0, 1), y.setKind(0, 1));
                case 'm' -> Check.due(call, x.markCollisions(), y.markCollisions());
                case 'r' -> Check.due(call, x.removeWord(0), y.removeWord(0));
                case 'k' -> Check.due(call, x.keep(), y.keep());
                case 'u' -> Check.due(call, x.undo(), y.undo());
                default -> Check.due(call, x.restore(), y.restore());
            }
        }
        for (int what = 0; what < 11; what++) {
            Check.due(past + " count(" + what + ")", x.count(what), y.count(what));
        }
        for (int word = 0; word < 2; word++) {
            Check.due(past + " word(" + word + ", 0)", x.word(word, 0), y.word(word, 0));
            Check.due(past + " at(" + word + ", 0, 0)", x.at(word, 0, 0), y.at(word, 0, 0));
        }
        for (int left = y.count(8); left >= 0; left--) {
            Check.due(past + " undo()", x.undo(), y.undo());
            Check.due(past + " count(1) after undo", x.count(1), y.count(1));
            Check.due(past + " word(0, 0) after undo", x.word(0, 0), y.word(0, 0));
            Check.due(past + " sign(A, 0) after undo", x.sign('A', 0), y.sign('A', 0));
        }
    }
}
