/**
 * "The fault of the text ... is the index, from 0, of the first character that is not allowed at its
 * place, or the length of the text if it ends too early": each place of the grammars with all
 * characters up to 599 and some of those above, and the texts that end there.
 */
public final class FaultTest extends SpellerCase {
    private static final String SMALL = "abcdefghijklmnopqrstuvwxyz";
    private static final String CAPITAL = "ABCDEFGHIJKLMNOPQRSTUVWXYZ";
    private static final int NO_FAULT = -1;
    /** An object is used for 512 calls at most; a character takes some three, and its place at most sixty. */
    private static final int CHARACTERS_OF_ONE_OBJECT = 8;

    private static final int ENTRIES = 0;
    private static final int THERE = 1;
    private static final int BACK = 2;
    private static final String[] KINDS = {"entries", "words", "words back"};

    private FaultTest() {
    }

    public static void main(String[] args) {
        placesOfEntries();
        placesOfWords();
        placesOfWordsBack();
        laterEntries();
        endsOfEntries();
        endsOfWords();
        sixtyCharacters();
        faultOfSixty();
        faultAheadOfOthers();
        Check.end();
    }

    // ---- each character at each place

    private static void placesOfEntries() {
        place(ENTRIES, "", SMALL + CAPITAL + ":");
        place(ENTRIES, "a", SMALL + "=");
        place(ENTRIES, "ab", SMALL + "=");
        place(ENTRIES, "abc", SMALL + "=");
        place(ENTRIES, "abcd", "=");
        place(ENTRIES, "a=", CAPITAL + "_");
        place(ENTRIES, "abcd=", CAPITAL + "_");
        place(ENTRIES, "a=A", "^$+-<,");
        place(ENTRIES, "a=_", "^$+-<,");
        for (char side : "^$+-<".toCharArray()) {
            place(ENTRIES, "a=A" + side, ",");
        }
        place(ENTRIES, ":", SMALL);
        for (int many = 1; many < 12; many++) {
            place(ENTRIES, ":" + SMALL.substring(0, many), SMALL + "!',");
        }
        place(ENTRIES, ":abcdefghijkl", "!',");
        place(ENTRIES, ":a!", ",");
        place(ENTRIES, ":a'", ",");
        place(ENTRIES, ":abcdefghijkl!", ",");
        place(ENTRIES, ":abcdefghijkl'", ",");
        place(ENTRIES, "A", "=");
        place(ENTRIES, "A=", SMALL);
        place(ENTRIES, "A=a", SMALL + ",");
        place(ENTRIES, "A=ab", ",");
    }

    /** Behind a "," an entry begins anew, whichever stood ahead of it. */
    private static void laterEntries() {
        String[] entries = {"a=A", "a=_^", ":z", ":z!", ":z'", "Z=z", "Z=zz"};
        for (String entry : entries) {
            place(ENTRIES, entry + ",", SMALL + CAPITAL + ":");
            place(ENTRIES, entry + ",:", SMALL);
            place(ENTRIES, entry + ",B", "=");
            place(ENTRIES, entry + ",bcde", "=");
        }
    }

    private static void placesOfWords() {
        place(THERE, "", SMALL);
        for (int many = 1; many < 12; many++) {
            place(THERE, SMALL.substring(0, many), SMALL + " ");
        }
        place(THERE, "abcdefghijkl", " ");
        place(THERE, "a ", SMALL);
        place(THERE, "abcdefghijkl a", SMALL + " ");
        place(THERE, "a abcdefghijkl", " ");
    }

    private static void placesOfWordsBack() {
        place(BACK, "", SMALL);
        for (int many = 1; many < 24; many++) {
            place(BACK, SMALL.substring(0, many), SMALL + " '");
        }
        place(BACK, "abcdefghijklmnopqrstuvwx", " '");
        place(BACK, "a'", " ");
        place(BACK, "abcdefghijklmnopqrstuvwx'", " ");
        place(BACK, "a ", SMALL);
        place(BACK, "a' ", SMALL);
        place(BACK, "a' a", SMALL + " '");
        place(BACK, "a abcdefghijklmnopqrstuvwx", " '");
    }

    /** Every character tried behind the beginning is a fault there, but for the allowed ones. */
    private static void place(int kind, String beginning, String allowed) {
        SoundSpeller x = new SoundSpeller();
        int used = 0;
        for (int code = 0; code <= 0xffff; code = next(code)) {
            if (used == CHARACTERS_OF_ONE_OBJECT || beginning.length() > 16) {
                x = new SoundSpeller();
                used = 0;
            }
            used++;
            write(x, beginning + (char) code);
            int answer = ask(x, kind);
            boolean fault = answer == -100 - beginning.length();
            Check.due(KINDS[kind] + " '" + beginning + "' then " + code, fault ? 0 : 1, allowed.indexOf(code) >= 0 ? 1 : 0);
        }
    }

    /** All characters up to 599, and every 509th of those above. */
    private static int next(int code) {
        return code < 600 ? code + 1 : code + 509;
    }

    private static int ask(SoundSpeller x, int kind) {
        return kind == ENTRIES ? x.readEntries() : x.convert(kind == BACK);
    }

    // ---- texts that end

    private static void due(int kind, String text, int fault) {
        SoundSpeller x = new SoundSpeller();
        write(x, text);
        int answer = ask(x, kind);
        if (fault == NO_FAULT) {
            Check.due(KINDS[kind] + " '" + text + "' has no fault", answer >= 0 ? 1 : 0, 1);
        } else {
            Check.due(KINDS[kind] + " '" + text + "'", answer, -100 - fault);
        }
    }

    /** "or the length of the text if it ends too early (the empty text does)". */
    private static void endsOfEntries() {
        String[] early = {"", "a", "ab", "abc", "abcd", "a=", "abcd=", ":", "A", "A=", "a=A,", ":a,", "A=a,", "a=A,b",
            "a=A,b=", "a=A,:", "a=A,B", "a=A,B=", "a=A^,", ":a!,", ":a',", "A=ab,", "a=A,b=B,"};
        for (String text : early) {
            due(ENTRIES, text, text.length());
        }
        String[] whole = {"a=A", "abcd=A", "a=_", "a=A^", "a=A$", "a=A+", "a=A-", "a=A<", ":a", ":abcdefghijkl", ":a!", ":a'",
            "A=a", "A=ab", "a=A,:a", ":a,A=a", "A=ab,a=_<"};
        for (String text : whole) {
            due(ENTRIES, text, NO_FAULT);
        }
    }

    private static void endsOfWords() {
        for (int kind = THERE; kind <= BACK; kind++) {
            due(kind, "", 0);
            due(kind, "a ", 2);
            due(kind, "abcdefghijkl ", 13);
            due(kind, "a b c ", 6);
            due(kind, "a", NO_FAULT);
            due(kind, "abcdefghijkl", NO_FAULT);
            due(kind, "a b", NO_FAULT);
        }
        due(THERE, "abcdefghijklm", 12);
        due(BACK, "abcdefghijklm", NO_FAULT);
        due(BACK, "abcdefghijklmnopqrstuvwx", NO_FAULT);
        due(BACK, "abcdefghijklmnopqrstuvwx'", NO_FAULT);
        due(BACK, "abcdefghijklmnopqrstuvwxy", 24);
        due(BACK, "a' ", 3);
        due(BACK, "a' b'", NO_FAULT);
    }

    // ---- a text of sixty characters

    private static void sixtyCharacters() {
        String twelve = "abcdefghijkl";
        due(ENTRIES, ":" + twelve + ",:b" + twelve.substring(1) + ",:c" + twelve.substring(1) + ",:d" + twelve.substring(1)
                + ",:aa!", NO_FAULT);
        due(ENTRIES, ":" + twelve + ",:b" + twelve.substring(1) + ",:c" + twelve.substring(1) + ",:d" + twelve.substring(1)
                + ",:aa,", 60);
        due(ENTRIES, ":a,:b,:c,:d,:e,:f,:g,:h,:i,:j,:k,:l,:m,:n,:o,:p,:q,:r,:s,:tt", NO_FAULT);
        String words = "a a a a a a a a a a a a a a a a a a a a a a a a a a a a a a";
        due(THERE, words + "a", NO_FAULT);
        due(THERE, words + " ", 60);
        due(BACK, words + "'", NO_FAULT);
        due(BACK, words + " ", 60);
    }

    private static void faultOfSixty() {
        String words = "a a a a a a a a a a a a a a a a a a a a a a a a a a a a a a";
        due(THERE, words + "'", 59);
        due(BACK, words + "?", 59);
        due(ENTRIES, ":a,:b,:c,:d,:e,:f,:g,:h,:i,:j,:k,:l,:m,:n,:o,:p,:q,:r,:s,:t?", 59);
        due(ENTRIES, "a=A,a=A,a=A,a=A,a=A,a=A,a=A,a=A,a=A,a=A,a=A,a=A,a=A,a=A,a=A,", 60);
    }

    // ---- a fault goes ahead of whatever else is wrong

    private static void faultAheadOfOthers() {
        Check.due("ahead of a rule there", enter(with("a=A"), "a=B,"), -104);
        Check.due("ahead of a word there", enter(with(":a"), ":a!!"), -103);
        Check.due("ahead of a rule twice", enter(new SoundSpeller(), "a=B,a=B?"), -107);
        Check.due("ahead of full rules", enter(withAllRules(), "b=B,?"), -104);
        Check.due("ahead of full words", enter(withAllWords(), ":u,:"), -104);
        SoundSpeller x = withAllRules();
        Check.due("a rule there ahead of full", enter(x, "a=B,aa=C"), NOT_POSSIBLE);
        Check.due("a rule twice ahead of full", enter(x, "a=B,a=C"), NOT_POSSIBLE);
        Check.due("a word twice ahead of full rules", enter(x, "a=B,:a,:a"), NOT_POSSIBLE);
        Check.due("full", enter(x, "a=B,:a,:b"), FULL);
        SoundSpeller y = withAllWords();
        Check.due("a word there ahead of full", enter(y, ":u,:a"), NOT_POSSIBLE);
        Check.due("a word twice ahead of full", enter(y, ":u,:u"), NOT_POSSIBLE);
        Check.due("a rule twice ahead of full words", enter(y, ":u,a=A,a=A"), NOT_POSSIBLE);
        Check.due("full words", enter(y, ":u,a=A"), FULL);
    }
}
