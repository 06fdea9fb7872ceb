/** Each promise at the ends of what it takes: arguments just inside and just outside, empty rows and full ones. */
public final class EdgeTest extends SpellerCase {
    private static final int[] FAR = {LEAST, LEAST + 1, -65536, -256, -100, -6, -5, -2, -1, 256, 65536, MOST - 1, MOST};
    private static final String THIRTY_WORDS = "a a a a a a a a a a a a a a a a a a a a a a a a a a a a a a";

    private EdgeTest() {
    }

    public static void main(String[] args) {
        newObject();
        numbersOfRules();
        numbersOfWords();
        placesOfRules();
        kinds();
        whatOfRule();
        whatOfWord();
        whatOfAt();
        whatOfCount();
        indexOfLetter();
        indexOfSign();
        indexOfAt();
        indexOfResult();
        charactersOfSounds();
        charactersOfLetters();
        oneEntry();
        manyEntries();
        signsInEntries();
        turnsOfEntries();
        lastRuleRemoved();
        moveToTheEnds();
        moveWithAllWords();
        lastWordRemoved();
        allCollide();
        markedAgainstMarked();
        anyCharacter();
        clearAFullText();
        convertTheMost();
        convertThereAndBack();
        takeTheMost();
        undoTheOldest();
        keepAndRestoreTheEnds();
        usesInAllKinds();
        rulesOfEachLetter();
        collideWithAll();
        countTheMost();
        Check.end();
    }

    /** Promise 1: "Creates a converter without rules and words." */
    private static void newObject() {
        SoundSpeller x = new SoundSpeller();
        Check.due("rules, words", x.count(0) + x.count(1), 0);
        Check.due("collisions", x.count(2), 0);
        Check.due("come back", x.count(3), 0);
        Check.due("unused rules", x.count(4), 0);
        Check.due("letters, spellings", x.count(5) + x.count(6), 0);
        Check.due("result, states, text, long signs", x.count(7) + x.count(8) + x.count(9) + x.count(10), 0);
        Check.due("clear", x.clearText(), 0);
        Check.due("take", x.takeResult(), 0);
        Check.due("keep", x.keep(), 0);
        Check.due("restore what was kept empty", x.restore(), 0);
        Check.due("which is an act", x.count(8), 1);
        Check.due("undo", x.undo(), 0);
        SoundSpeller one = with("a=A,:a");
        SoundSpeller other = new SoundSpeller();
        Check.due("each has its own", one.count(0) + one.count(1) + other.count(0) + other.count(1), 2);
    }

    // ---- numbers just inside and just outside

    private static SoundSpeller ofMany(int rules, int words) {
        SoundSpeller x = withAllRules();
        while (x.count(0) > rules) {
            x.removeRule(0);
        }
        enter(x, ":a,:b,:c,:d,:e,:f,:g,:h,:i,:j");
        enter(x, ":k,:l,:m,:n,:o,:p,:q,:r,:s,:t");
        while (x.count(1) > words) {
            x.removeWord(0);
        }
        return x;
    }

    private static void numbersOfRules() {
        for (int many : new int[] {0, 1, 2, 29, 30}) {
            SoundSpeller x = ofMany(many, 0);
            int[] outside = {many, many + 1, 30, 31, -1, -2, -30, LEAST, MOST};
            for (int rule : outside) {
                String told = "rule " + rule + " of " + many + ", ";
                int due = rule >= 0 && rule < many ? 0 : UNKNOWN;
                Check.due(told + "rule", x.rule(rule, 9), due == 0 ? BAD : due);
                Check.due(told + "letterOf", x.letterOf(rule, -1), due == 0 ? BAD : due);
                Check.due(told + "moveRule", x.moveRule(rule, -1), due == 0 ? BAD : due);
                if (due == UNKNOWN) {
                    Check.due(told + "removeRule", x.removeRule(rule), UNKNOWN);
                }
            }
            Check.due("all stay of " + many, x.count(0), many);
            if (many > 0) {
                Check.due("first of " + many, x.rule(0, 0), 2);
                Check.due("last of " + many, x.rule(many - 1, 0), 2);
                Check.due("last letter of " + many, x.letterOf(many - 1, 1), 'd');
                Check.due("remove the last of " + many, x.removeRule(many - 1), many - 1);
                Check.due("no last of " + many, x.rule(many - 1, 0), UNKNOWN);
            }
        }
    }

    private static void numbersOfWords() {
        for (int many : new int[] {0, 1, 2, 19, 20}) {
            SoundSpeller x = ofMany(0, many);
            int[] outside = {many, many + 1, 20, 21, -1, -2, -20, LEAST, MOST};
            for (int word : outside) {
                String told = "word " + word + " of " + many + ", ";
                boolean inside = word >= 0 && word < many;
                Check.due(told + "word", x.word(word, 9), inside ? BAD : UNKNOWN);
                Check.due(told + "at", x.at(word, 4, -1), inside ? BAD : UNKNOWN);
                Check.due(told + "setKind", x.setKind(word, 3), inside ? BAD : UNKNOWN);
                if (!inside) {
                    Check.due(told + "removeWord", x.removeWord(word), UNKNOWN);
                }
            }
            Check.due("all stay of " + many, x.count(1), many);
            if (many > 0) {
                Check.due("first of " + many, x.word(0, 1), 1);
                Check.due("last of " + many, x.at(many - 1, 0, 0), 't');
                Check.due("kind of the last of " + many, x.setKind(many - 1, 1), 0);
                Check.due("remove the last of " + many, x.removeWord(many - 1), many - 1);
                Check.due("no last of " + many, x.word(many - 1, 0), UNKNOWN);
            }
        }
    }

    /** "place: 0 up to the number of rules less 1"; UNKNOWN ahead of BAD_VALUE, that ahead of NONE. */
    private static void placesOfRules() {
        for (int many : new int[] {1, 2, 30}) {
            SoundSpeller x = ofMany(many, 0);
            int states = x.count(8);
            Check.due("place -1 of " + many, x.moveRule(0, -1), BAD);
            Check.due("place behind " + many, x.moveRule(0, many), BAD);
            Check.due("place 30 of " + many, x.moveRule(many - 1, 30), BAD);
            for (int far : FAR) {
                Check.due("place " + far + " of " + many, x.moveRule(many - 1, far), BAD);
                Check.due("rule and place " + far + " of " + many, x.moveRule(far, far), UNKNOWN);
            }
            Check.due("first there already of " + many, x.moveRule(0, 0), NONE);
            Check.due("last there already of " + many, x.moveRule(many - 1, many - 1), NONE);
            Check.due("states of " + many, x.count(8), states);
        }
        SoundSpeller x = with("a=A,b=B");
        Check.due("to the last place", x.moveRule(0, 1), 0);
        Check.due("which is", rules(x), "bB0 aA0");
        Check.due("to the first place", x.moveRule(1, 0), 0);
        Check.due("which is again", rules(x), "aA0 bB0");
        Check.due("both beyond", x.moveRule(2, 2), UNKNOWN);
    }

    /** "kind: 0 to 2"; UNKNOWN ahead of BAD_VALUE, that ahead of NONE. */
    private static void kinds() {
        for (int was = 0; was <= 2; was++) {
            for (int kind = -2; kind <= 4; kind++) {
                SoundSpeller x = with(":a,:b!,:c'");
                int due = kind < 0 || kind > 2 ? BAD : kind == was ? NONE : was;
                Check.due("kind " + kind + " for " + was, x.setKind(was, kind), due);
                Check.due("then of " + kind + " for " + was, x.word(was, 0), due >= 0 ? kind : was);
                Check.due("states of " + kind + " for " + was, x.count(8), due >= 0 ? 2 : 1);
                Check.due("no such word, kind " + kind, x.setKind(3, kind), UNKNOWN);
            }
        }
        SoundSpeller y = with(":a");
        for (int far : FAR) {
            Check.due("kind " + far, y.setKind(0, far), BAD);
            Check.due("word and kind " + far, y.setKind(far, far), UNKNOWN);
        }
    }

    private static void whatOfRule() {
        SoundSpeller x = with("a=A");
        for (int far : FAR) {
            Check.due("rule what " + far, x.rule(0, far), BAD);
            Check.due("rule and what " + far, x.rule(far, far), UNKNOWN);
        }
        Check.due("rule what 0", x.rule(0, 0), 1);
        Check.due("rule what 3", x.rule(0, 3), 0);
        Check.due("rule what 4", x.rule(0, 4), BAD);
    }

    private static void whatOfWord() {
        SoundSpeller x = with(":a");
        for (int far : FAR) {
            Check.due("word what " + far, x.word(0, far), BAD);
            Check.due("word and what " + far, x.word(far, far), UNKNOWN);
        }
        Check.due("word what 0", x.word(0, 0), 0);
        Check.due("word what 6", x.word(0, 6), 0);
        Check.due("word what 7", x.word(0, 7), BAD);
    }

    private static void whatOfAt() {
        SoundSpeller x = with(":a");
        for (int far : FAR) {
            Check.due("at what " + far, x.at(0, far, 0), BAD);
            Check.due("at what " + far + " behind its end", x.at(0, far, 99), BAD);
            Check.due("at word and what " + far, x.at(far, far, far), UNKNOWN);
        }
        Check.due("at what 0", x.at(0, 0, 0), 'a');
        Check.due("at what 3", x.at(0, 3, 0), NONE);
        Check.due("at what 4", x.at(0, 4, 0), BAD);
        Check.due("at what 4 behind its end", x.at(0, 4, 1), BAD);
    }

    private static void whatOfCount() {
        SoundSpeller x = with("a=A");
        for (int far : FAR) {
            Check.due("count " + far, x.count(far), BAD);
        }
        Check.due("count 0", x.count(0), 1);
        Check.due("count 10", x.count(10), 0);
        Check.due("count 11", x.count(11), BAD);
    }

    // ---- indexes just inside and just outside

    private static void indexOfLetter() {
        SoundSpeller x = with("a=A,ab=A,abc=A,abcd=A,abcd=B^");
        for (int rule = 0; rule < 5; rule++) {
            int last = Math.min(rule, 3);
            Check.due("ahead of the letters of " + rule, x.letterOf(rule, -1), BAD);
            Check.due("first letter of " + rule, x.letterOf(rule, 0), 'a');
            Check.due("last letter of " + rule, x.letterOf(rule, last), 'a' + last);
            Check.due("behind the letters of " + rule, x.letterOf(rule, last + 1), NONE);
            for (int far : FAR) {
                Check.due("letter " + far + " of " + rule, x.letterOf(rule, far), far < 0 ? BAD : NONE);
            }
        }
        Check.due("no rule, no index", x.letterOf(5, -1), UNKNOWN);
    }

    private static void indexOfSign() {
        SoundSpeller x = with("A=zy,Z=ab,B=q");
        Check.due("two of A", x.sign('A', 0) * 1000 + x.sign('A', 1), 'z' * 1000 + 'y');
        Check.due("two of Z", x.sign('Z', 0) * 1000 + x.sign('Z', 1), 'a' * 1000 + 'b');
        Check.due("one of B", x.sign('B', 0), 'q');
        Check.due("no second of B", x.sign('B', 1), NONE);
        for (char sound : "ABZ".toCharArray()) {
            Check.due("index -1 of " + sound, x.sign(sound, -1), BAD);
            Check.due("index 2 of " + sound, x.sign(sound, 2), BAD);
            for (int far : FAR) {
                Check.due("index " + far + " of " + sound, x.sign(sound, far), BAD);
            }
        }
        Check.due("no sound, no index", x.sign('z', 2), UNKNOWN);
    }

    /** "BAD_VALUE (what, or index is negative); NONE if there are not so many." */
    private static void indexOfAt() {
        SoundSpeller x = with("a=_,b=B,B=xy,:abbbbbbbbbbb',:a!");
        int[] lengths = {12, 11, 23, 12};
        String firsts = "aBx";
        for (int what = 0; what <= 3; what++) {
            Check.due("ahead of " + what, x.at(0, what, -1), BAD);
            Check.due("first of " + what, x.at(0, what, 0), what == 3 ? 0 : firsts.charAt(what));
            Check.due("last of " + what, x.at(0, what, lengths[what] - 1), what == 3 ? 1 : "bB'".charAt(what));
            Check.due("behind " + what, x.at(0, what, lengths[what]), NONE);
            for (int far : FAR) {
                Check.due("at " + far + " of " + what, x.at(0, what, far), far < 0 ? BAD : NONE);
            }
        }
        Check.due("no sound at all", x.at(1, 1, 0), NONE);
        Check.due("ahead of no sound", x.at(1, 1, -1), BAD);
        Check.due("kept, as if plain", x.at(1, 3, 0), 0);
        Check.due("no word, no what, no index", x.at(2, -1, -1), UNKNOWN);
        Check.due("no what, no index", x.at(1, -1, -1), BAD);
    }

    private static void indexOfResult() {
        SoundSpeller x = new SoundSpeller();
        for (int far : FAR) {
            Check.due("result " + far + " of none", x.result(far), far < 0 ? BAD : NONE);
        }
        Check.due("result 0 of none", x.result(0), NONE);
        convert(x, "z", false);
        Check.due("result 0 of one", x.result(0), 'z');
        Check.due("result 1 of one", x.result(1), NONE);
        convert(x, "ab cd", false);
        Check.due("last of five", x.result(4), 'd');
        Check.due("behind five", x.result(5), NONE);
        Check.due("ahead of five", x.result(-1), BAD);
        convert(x, "y", false);
        Check.due("no more of the longer one", x.result(1), NONE);
    }

    // ---- characters just inside and just outside

    private static void charactersOfSounds() {
        SoundSpeller x = null;
        for (int code = 0; code <= 0xffff; code++) {
            if (code % 200 == 0) {
                x = with("a=A,b=B,:a,:b");
            }
            boolean sound = code >= 'A' && code <= 'Z';
            Check.due("sign of " + code, x.sign((char) code, 0), sound ? code + 32 : UNKNOWN);
            Check.due("collision of " + code, x.collideWith((char) code, '?'), sound ? BAD : UNKNOWN);
        }
    }

    private static void charactersOfLetters() {
        SoundSpeller x = null;
        for (int code = 0; code <= 0xffff; code++) {
            if (code % 400 == 0) {
                x = with("a=A,b=B,:a,:b");
            }
            boolean letter = code >= 'a' && code <= 'z';
            Check.due("letter " + code, x.collideWith('A', (char) code), letter ? code == 'b' ? 2 : 0 : BAD);
        }
    }

    // ---- promise 2: readEntries

    private static void oneEntry() {
        String[] entries = {"a=A", "a=_", "zzzz=Z<", ":a", ":zzzzzzzzzzzz'", "A=a", "Z=zz"};
        for (String entry : entries) {
            SoundSpeller x = new SoundSpeller();
            Check.due("one entry " + entry, enter(x, entry), 1);
            Check.due("one act " + entry, x.count(8), 1);
            Check.due("text stays " + entry, x.count(9), entry.length());
            Check.due("undone " + entry, x.undo(), 0);
            Check.due("nothing of " + entry, x.count(0) + x.count(1) + x.count(10) + x.sign('A', 0), 'a');
        }
    }

    private static void manyEntries() {
        SoundSpeller x = new SoundSpeller();
        Check.due("twenty words at once", enter(x, ":a,:b,:c,:d,:e,:f,:g,:h,:i,:j,:k,:l,:m,:n,:o,:p,:q,:r,:s,:t"), 20);
        Check.due("one act", x.count(8), 1);
        Check.due("all of them", row(x, 0, 0) + row(x, 19, 0) + x.count(1), "at20");
        SoundSpeller y = new SoundSpeller();
        Check.due("fifteen rules at once", enter(y, "a=A,b=A,c=A,d=A,e=A,f=A,g=A,h=A,i=A,j=A,k=A,l=A,m=A,n=A,o=A"), 15);
        Check.due("fifteen more", enter(y, "a=A^,b=A^,c=A^,d=A^,e=A^,f=A^,g=A^,h=A^,i=A^,j=A^,k=A^,l=A^"), 12);
        Check.due("three more", enter(y, "m=_<,n=_<,o=_<"), 3);
        Check.due("thirty", y.count(0), 30);
        Check.due("the same text again", y.readEntries(), NOT_POSSIBLE);
        SoundSpeller z = ofMany(0, 10);
        Check.due("eleven at once are too many", enter(z, ":aa,:bb,:cc,:dd,:ee,:ff,:gg,:hh,:ii,:jj,:kk"), FULL);
        Check.due("ten stay", z.count(1), 10);
        Check.due("ten at once", enter(z, ":aa,:bb,:cc,:dd,:ee,:ff,:gg,:hh,:ii,:jj"), 10);
        Check.due("twenty", z.count(1), 20);
    }

    private static void signsInEntries() {
        SoundSpeller x = with("a=A,:a");
        Check.due("a sign is never there already", enter(x, "A=xy,A=xy"), 2);
        Check.due("same again", x.readEntries(), 2);
        Check.due("states", x.count(8), 3);
        Check.due("spelled anew", row(x, 0, 2), "xy");
        Check.due("of two entries the later", enter(x, "A=pq,A=r"), 2);
        Check.due("is the sign", row(x, 0, 2) + x.sign('A', 1), "r" + NONE);
        SoundSpeller y = withAllRules();
        Check.due("signs when rules are full", enter(y, "A=x,Z=yz"), 2);
        SoundSpeller z = withAllWords();
        Check.due("signs when words are full", enter(z, "A=x,Z=yz"), 2);
    }

    /** "NOT_POSSIBLE if any rule, or any word, is there already as its turn comes". */
    private static void turnsOfEntries() {
        Check.due("first is there", enter(with("a=A"), "a=B,b=B"), NOT_POSSIBLE);
        Check.due("last is there", enter(with("a=A"), "b=B,a=B"), NOT_POSSIBLE);
        Check.due("the very same rule", enter(with("a=A"), "a=A"), NOT_POSSIBLE);
        Check.due("the very same word", enter(with(":a"), ":a"), NOT_POSSIBLE);
        Check.due("first and last alike", enter(new SoundSpeller(), ":a,b=B,C=d,:e,:a"), NOT_POSSIBLE);
        Check.due("last of thirty is there", enter(withAllRules(), "bd=A"), NOT_POSSIBLE);
        Check.due("last of twenty is there", enter(withAllWords(), ":t"), NOT_POSSIBLE);
        Check.due("a rule and a word alike", enter(with("a=A"), ":a"), 1);
        Check.due("a word and a rule alike", enter(with(":a"), "a=A"), 1);
    }

    // ---- promises 3 to 7

    private static void lastRuleRemoved() {
        SoundSpeller x = withAllRules();
        for (int left = 29; left >= 0; left--) {
            Check.due("left " + left, x.removeRule(left % 2 == 0 ? 0 : left), left);
            Check.due("states " + left, x.count(8), 4);
        }
        Check.due("none left", x.removeRule(0), UNKNOWN);
        Check.due("undone", x.undo(), 3);
        Check.due("one again", x.count(0), 1);
        SoundSpeller y = with("a=A,b=B,c=C,d=D");
        y.removeRule(1);
        Check.due("later ones have one number less", rules(y), "aA0 cC0 dD0");
        y.removeRule(2);
        Check.due("earlier ones stay", rules(y), "aA0 cC0");
    }

    private static void moveToTheEnds() {
        SoundSpeller x = with("a=A,b=B,c=C,d=D");
        x.moveRule(0, 3);
        Check.due("first to the end", rules(x), "bB0 cC0 dD0 aA0");
        x.moveRule(3, 0);
        Check.due("last to the front", rules(x), "aA0 bB0 cC0 dD0");
        x.moveRule(1, 2);
        Check.due("one behind", rules(x), "aA0 cC0 bB0 dD0");
        x.moveRule(3, 1);
        Check.due("two ahead", rules(x), "aA0 dD0 cC0 bB0");
        SoundSpeller y = withAllRules();
        Check.due("among thirty", y.moveRule(0, 29), 0);
        Check.due("at the ends", letters(y, 0) + letters(y, 28) + letters(y, 29), "abbdaa");
        Check.due("back", y.moveRule(29, 0), 0);
        Check.due("at the ends again", letters(y, 0) + letters(y, 1) + letters(y, 29), "aaabbd");
    }

    /** "Returns how many words of the book have another new spelling then". */
    private static void moveWithAllWords() {
        SoundSpeller x = new SoundSpeller();
        enter(x, "z=A^,z=B<,z=C$");
        Check.due("no words", x.moveRule(0, 2), 0);
        x.moveRule(2, 0);
        enter(x, ":za,:zb,:zc,:zd,:ze,:zf,:zg,:zh,:zi,:zj");
        Check.due("no change", x.moveRule(0, 2), 0);
        Check.due("no change back", x.moveRule(2, 0), 0);
        SoundSpeller y = with("z=A^,z=B-", ":zb,:zc,:zd,:zf,:zg,:zh,:zj,:zk,:zl,:zm", ":zn,:zp,:zq,:zr,:zs,:zt,:zv,:zw,:zx,:zz");
        Check.due("all twenty", y.moveRule(1, 0), 20);
        Check.due("all twenty back", y.moveRule(0, 1), 20);
        y.setKind(0, 1);
        y.setKind(19, 2);
        Check.due("not the kept one", y.moveRule(0, 1), 19);
        SoundSpeller z = with("z=A^,z=B$,B=a,:z");
        Check.due("another sound, but the same spelling", z.moveRule(0, 1), 0);
        Check.due("another sound", row(z, 0, 1), "B");
        Check.due("is an act", z.count(8), 2);
    }

    private static void lastWordRemoved() {
        SoundSpeller x = withAllWords();
        for (int left = 19; left >= 0; left--) {
            Check.due("left " + left, x.removeWord(left % 2 == 0 ? 0 : left), left);
        }
        Check.due("none left", x.removeWord(0), UNKNOWN);
        Check.due("undone", x.undo(), 3);
        Check.due("one again", x.count(1), 1);
        SoundSpeller y = with(":a,:b!,:c',:d");
        y.removeWord(1);
        Check.due("later ones have one number less", words(y), "a0 c2 d0");
        y.removeWord(2);
        Check.due("earlier ones stay", words(y), "a0 c2");
    }

    private static SoundSpeller withTwentyAlike() {
        SoundSpeller x = with("b=A,c=A,d=A,e=A,f=A,g=A,h=A,i=A,j=A,k=A,l=A,m=A,n=A,o=A,p=A", "q=A,r=A,s=A,t=A");
        enter(x, ":a,:b,:c,:d,:e,:f,:g,:h,:i,:j,:k,:l,:m,:n,:o,:p,:q,:r,:s,:t");
        return x;
    }

    /** "each one that collides with any word ahead of it becomes marked", of twenty alike. */
    private static void allCollide() {
        SoundSpeller x = withTwentyAlike();
        Check.due("collide", x.count(2), 20);
        Check.due("come back", x.count(3), 1);
        Check.due("first comes back", x.word(0, 5), 1);
        Check.due("last doesn't", x.word(19, 5), 0);
        Check.due("with the first", x.word(0, 4), 20);
        Check.due("with the last", x.word(19, 4), 20);
        Check.due("marked", x.markCollisions(), 19);
        Check.due("first stays", x.word(0, 0), 0);
        Check.due("last is marked", x.word(19, 0), 2);
        Check.due("collide then", x.count(2), 19);
        Check.due("come back then", x.count(3), 2);
        Check.due("no more", x.markCollisions(), NONE);
        Check.due("one act", x.undo(), 3);
        Check.due("as before", x.count(2), 20);
    }

    private static void markedAgainstMarked() {
        SoundSpeller x = with("b=A,:a',:b");
        Check.due("a marked one ahead is unlike", x.markCollisions(), NONE);
        SoundSpeller y = with("b=A,c=A,:a!,:b,:c");
        Check.due("with a kept one ahead", y.markCollisions(), 2);
        Check.due("which both are marked", words(y), "a1 b2 c2");
        SoundSpeller z = with("b=A,:b,:a!");
        Check.due("with a kept one behind", z.markCollisions(), NONE);
        Check.due("collide still", z.count(2), 2);
        SoundSpeller w = with("b=A,c=A,:b,:a!,:c");
        Check.due("with both", w.markCollisions(), 1);
        Check.due("the one behind", words(w), "b0 a1 c2");
        SoundSpeller v = with("b=A,:a,:b");
        Check.due("two of one letter", v.markCollisions(), 1);
        Check.due("none collides", v.count(2), 0);
        Check.due("all come back", v.count(3), 2);
        Check.due("one word", with(":a").markCollisions(), NONE);
        SoundSpeller u = with("b=A,c=A,:a,:b',:c");
        Check.due("marked beside a marked one", u.markCollisions(), 1);
        Check.due("these collide", u.word(1, 4) * 10 + u.word(2, 4), 22);
        Check.due("the first no more", u.word(0, 4), 1);
    }

    // ---- promises 8 to 11

    /** "character: any character". */
    private static void anyCharacter() {
        SoundSpeller x = null;
        for (int code = 0; code <= 0xffff; code++) {
            if (code % 60 == 0) {
                x = new SoundSpeller();
            }
            Check.due("type " + code, x.type((char) code), code % 60 + 1);
        }
    }

    private static void clearAFullText() {
        SoundSpeller x = new SoundSpeller();
        write(x, THIRTY_WORDS + "b");
        Check.due("sixty", x.type('c'), FULL);
        Check.due("had sixty", x.clearText(), 60);
        Check.due("has none", x.clearText(), 0);
        Check.due("fault of none", x.convert(true), -100);
        Check.due("room again", x.type('c'), 1);
        Check.due("only that", x.convert(false), 1);
        Check.due("which is", x.result(0), 'c');
        Check.due("had one", x.clearText(), 1);
    }

    private static void convertTheMost() {
        SoundSpeller x = with("a=A,A=xy,b=_,:a',:xxxxxxxxxxx!", ":ybbbbbbbbbbb,:zbbbbbbbbbbb!");
        Check.due("one letter", convert(x, "c", false), 1);
        Check.due("thirty words", convert(x, THIRTY_WORDS, false), 119);
        Check.due("the last sign", x.result(118), '\'');
        Check.due("behind it", x.result(119), NONE);
        String back = THIRTY_WORDS.replace('a', 'y');
        Check.due("thirty words back", convert(x, back, true), 389);
        Check.due("the first", x.result(0), 'y');
        Check.due("a blank", x.result(12), ' ');
        Check.due("the last", x.result(388), 'b');
        Check.due("behind the last", x.result(389), NONE);
        Check.due("one letter back", convert(x, "c", true), 1);
        Check.due("nothing behind it", x.result(1), NONE);
        Check.due("sixty letters in five words", convert(x, "ccccccccccca ccccccccccca ccccccccccca ccccccccccca cccccccc", false), 64);
    }

    private static void convertThereAndBack() {
        SoundSpeller x = with("th=T,e=_$,ee=I,I=ij,:the!,:thee',:tree");
        String text = "the thee tree breeze";
        Check.due("there", convert(x, text, false), 19);
        Check.due("result", resultOf(x), "the tij' trij brijz");
        Check.due("text stays", x.count(9), text.length());
        Check.due("taken", x.takeResult(), x.count(7));
        Check.due("back", x.convert(true), 19);
        Check.due("but for one that the book doesn't have", resultOf(x), "the thee tree brijz");
        Check.due("text is the result there", x.count(9), 19);
    }

    /** "FULL if the result has more than 60 characters." */
    private static void takeTheMost() {
        SoundSpeller x = with("a=A,A=xy");
        convert(x, "aaaaaaaaaaaa aaaaaaaaaaaa bbbbbbbbbb", false);
        Check.due("sixty", x.count(7), 60);
        Check.due("are taken", x.takeResult(), 60);
        Check.due("the text is full", x.type('b'), FULL);
        Check.due("and is the result", x.convert(true), 60);
        convert(x, "aaaaaaaaaaaa aaaaaaaaaaaa bbbbbbbbbbb", false);
        Check.due("sixty-one", x.count(7), 61);
        Check.due("are not taken", x.takeResult(), FULL);
        Check.due("text stays", x.count(9), 37);
        Check.due("as it was", x.convert(false), 61);
        SoundSpeller y = new SoundSpeller();
        write(y, "ab cd");
        Check.due("an empty result", y.takeResult(), 0);
        Check.due("empties the text", y.count(9), 0);
        convert(y, "b", false);
        Check.due("one", y.takeResult(), 1);
        Check.due("result stays", y.result(0), 'b');
        Check.due("is no act", y.count(8), 0);
    }

    // ---- promises 12 to 14

    private static void undoTheOldest() {
        SoundSpeller x = with("a=A", "b=B", "c=C", "d=D");
        for (int left = 3; left >= 0; left--) {
            Check.due("left " + left, x.undo(), left);
            Check.due("rules " + left, x.count(0), left);
        }
        Check.due("empty", x.undo(), NONE);
        SoundSpeller y = with("a=A", "b=B", "c=C", "d=D", "e=E");
        for (int left = 3; left >= 0; left--) {
            Check.due("left of five " + left, y.undo(), left);
            Check.due("rules of five " + left, y.count(0), left + 1);
        }
        Check.due("the fifth is dropped", y.undo(), NONE);
        Check.due("one rule stays", rules(y), "aA0");
        enter(y, "z=Z,:z,Z=zz");
        y.undo();
        enter(y, "y=Y");
        Check.due("undone and another act", rules(y) + y.count(1) + y.count(10), "aA0 yY000");
        Check.due("which has the state ahead of it", y.undo(), 0);
        Check.due("that is", rules(y), "aA0");
    }

    private static void keepAndRestoreTheEnds() {
        SoundSpeller x = ofMany(30, 20);
        enter(x, "A=xy,Z=z");
        Check.due("keep all", x.keep(), 20);
        x.removeRule(29);
        x.removeWord(19);
        enter(x, "A=q");
        Check.due("restore all", x.restore(), 20);
        Check.due("all rules", x.count(0) + letters(x, 29), "30bd");
        Check.due("the last word", row(x, 19, 0), "t");
        Check.due("the sign", x.sign('A', 1), 'y');
        Check.due("undone", x.undo(), 3);
        Check.due("ahead of it", x.count(0) * 100 + x.count(1) + x.sign('A', 0), 2919 + 'q');
        SoundSpeller y = with(":a");
        y.undo();
        Check.due("keep nothing", y.keep(), 0);
        Check.due("restore nothing upon nothing", y.restore(), 0);
        Check.due("is an act", y.count(8), 1);
        enter(y, ":b");
        Check.due("restore nothing", y.restore(), 0);
        Check.due("no words", y.count(1), 0);
        Check.due("undone", y.undo(), 2);
        Check.due("one word", words(y), "b0");
        Check.due("keep one", y.keep(), 1);
    }

    // ---- promises 15 to 22

    /** "how many times it is used in all words of the book (kept ones too, as if they were plain)". */
    private static void usesInAllKinds() {
        SoundSpeller x = with("a=A,z=_", ":a,:aa!,:aaa',:aaaaaaaaaaaa,:z!,:zz',:b");
        Check.due("uses", x.rule(0, 3), 1 + 2 + 3 + 12);
        Check.due("uses of a silent one", x.rule(1, 3), 3);
        Check.due("unused", x.count(4), 0);
        Check.due("uses of each word", "" + x.word(0, 6) + x.word(1, 6) + x.word(2, 6) + x.word(3, 6) + x.word(4, 6) + x.word(5, 6)
                + x.word(6, 6), "12312120");
        x.removeWord(4);
        x.removeWord(4);
        Check.due("used no more", x.rule(1, 3), 0);
        Check.due("one unused", x.count(4), 1);
        SoundSpeller y = with("a=A,a=B^,a=C$,:a");
        Check.due("only the one that is used", "" + y.rule(0, 3) + y.rule(1, 3) + y.rule(2, 3), "010");
        SoundSpeller z = withAllRules();
        Check.due("all unused without words", z.count(4), 30);
        enter(z, ":aaabacadae!,:bdbd");
        Check.due("those in words are used", z.count(4), 24);
        Check.due("twice in a word", z.rule(29, 3), 2);
    }

    /** "3 for the rule that was used for the letter at an index, as if it were plain (NONE if none was)". */
    private static void rulesOfEachLetter() {
        SoundSpeller x = with("abcd=A,bc=_,e=E$", ":abcdbcabcd,:abcbcde!,:xyz',:bcbcbcbcbcbc");
        Check.due("four letters each", rulesAt(x, 0), "0000110000");
        Check.due("kept, as if plain", rulesAt(x, 1), ".1111.2");
        Check.due("none", rulesAt(x, 2), "...");
        Check.due("silent ones", rulesAt(x, 3), "111111111111");
        Check.due("behind the last", x.at(3, 3, 12), NONE);
        SoundSpeller y = withAllRules();
        enter(y, ":bd");
        Check.due("the last rule", y.at(0, 3, 0) * 100 + y.at(0, 3, 1), 2929);
    }

    private static void collideWithAll() {
        Check.due("no words", new SoundSpeller().collideWith('A', 'a'), 0);
        Check.due("one word", with("a=A,:a").collideWith('A', 'b'), 0);
        SoundSpeller x = withTwentyAlike();
        Check.due("as it is", x.collideWith('A', 'a'), 20);
        Check.due("without the first", x.collideWith('A', 'z'), 19);
        Check.due("of another sound", x.collideWith('B', 'a'), 20);
        SoundSpeller y = with("a=A,b=B,A=xy,B=xz,:a,:b,:ab,:ba,:x'");
        Check.due("of signs with two letters", y.count(2), 0);
        Check.due("one letter in place of two", y.collideWith('A', 'x'), 0);
        enter(y, "B=x");
        Check.due("and now two", y.collideWith('A', 'x'), 4);
        Check.due("the sign stays", y.sign('A', 1), 'y');
        Check.due("of the first letter and the last", y.collideWith('A', 'a') + y.collideWith('A', 'z'), 0);
        SoundSpeller z = with("a=A,z=Z,:a!,:z,:b");
        Check.due("a kept word has no sign", z.collideWith('A', 'b'), 0);
        Check.due("with a kept word", z.collideWith('Z', 'a'), 2);
        Check.due("with a plain one", z.collideWith('Z', 'b'), 2);
    }

    private static void countTheMost() {
        SoundSpeller x = with("a=A,A=xy");
        for (char c = 'a'; c < 'a' + 20; c += 4) {
            String word = ",:aaaaaaaaaaa";
            enter(x, (word + c + word + (char) (c + 1) + word + (char) (c + 2) + word + (char) (c + 3)).substring(1));
        }
        Check.due("twenty words", x.count(1), 20);
        Check.due("letters", x.count(5), 240);
        Check.due("spellings", x.count(6), 24 + 19 * 23);
        Check.due("uses", x.rule(0, 3), 12 + 19 * 11);
        for (int word = 0; word < 20; word++) {
            x.setKind(word, 2);
        }
        Check.due("marked spellings", x.count(6), 25 + 19 * 24);
        Check.due("come back", x.count(3), 20);
        Check.due("collide", x.count(2), 0);
        SoundSpeller y = new SoundSpeller();
        enter(y, "A=aa,B=aa,C=aa,D=aa,E=aa,F=aa,G=aa,H=aa,I=aa,J=aa,K=aa,L=aa");
        enter(y, "M=aa,N=aa,O=aa,P=aa,Q=aa,R=aa,S=aa,T=aa,U=aa,V=aa,W=aa,X=aa");
        Check.due("long signs", y.count(10), 24);
        enter(y, "Y=aa,Z=aa");
        Check.due("all signs are long", y.count(10), 26);
        enter(y, "A=a,Z=z");
        Check.due("two are short again", y.count(10), 24);
    }
}
