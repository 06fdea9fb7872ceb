/** Each sentence under "Terms" that names a boundary: what is just inside it, and what is just outside. */
public final class TermsTest extends SpellerCase {
    private static final String SIXTY = "abcdefghijkl abcdefghijkl abcdefghijkl abcdefghijkl abcdefgh";

    private TermsTest() {
    }

    public static void main(String[] args) {
        atMostThirtyRules();
        lettersOfARule();
        soundOfARule();
        noTwoRulesAlike();
        sideAtTheBeginning();
        sideAtTheEnd();
        sideAheadOfAVowel();
        sideAheadOfNoVowel();
        sideBehindAVowel();
        sidesLookAtLetters();
        mostLettersFirst();
        sideAheadOfNone();
        lowestOfSeveral();
        soundsAndSteps();
        signsAtFirst();
        signsOfOneOrTwo();
        emptySpelling();
        longestSpelling();
        atMostTwentyWords();
        lettersOfAWord();
        allWordsUnlike();
        kindsOfWords();
        wordsOutsideTheBook();
        backToJustOne();
        backToNone();
        backToSeveral();
        comesBack();
        textOfSixty();
        historyOfFour();
        everyActIsRecorded();
        whatIsNoAct();
        oneSnapshot();
        whatAStateIs();
        fiveHundredAndTwelveCalls();
        Check.end();
    }

    // ---- RULES

    /** "There are at most 30 rules, numbered from 0." */
    private static void atMostThirtyRules() {
        SoundSpeller x = new SoundSpeller();
        Check.due("no rule 0 of none", x.rule(0, 0), UNKNOWN);
        enter(x, "a=A");
        Check.due("rule 0 of one", x.rule(0, 0), 1);
        Check.due("no rule 1 of one", x.rule(1, 0), UNKNOWN);
        SoundSpeller y = withAllRules();
        Check.due("thirty rules", y.count(0), 30);
        Check.due("rule 0 of thirty", letters(y, 0), "aa");
        Check.due("rule 29 of thirty", letters(y, 29), "bd");
        Check.due("no rule 30 of thirty", y.rule(30, 0), UNKNOWN);
        Check.due("one more", enter(y, "be=A"), FULL);
        Check.due("still thirty", y.count(0), 30);
        Check.due("rule 29 stays", letters(y, 29), "bd");
        y.removeRule(0);
        Check.due("two more are too many", enter(y, "be=A,bf=A"), FULL);
        Check.due("29 stay", y.count(0), 29);
        Check.due("one more has room", enter(y, "be=B"), 1);
        Check.due("it is the last", letters(y, 29) + (char) y.rule(29, 1), "beB");
    }

    /** "A rule has letters (1 to 4 from a to z)". */
    private static void lettersOfARule() {
        Check.due("no letter", enter(new SoundSpeller(), "=A"), -100);
        for (int many = 1; many <= 4; many++) {
            String letters = "azzz".substring(0, many);
            SoundSpeller x = with(letters + "=A");
            Check.due("letters of " + letters, letters(x, 0) + x.rule(0, 0), letters + many);
        }
        Check.due("five letters", enter(new SoundSpeller(), "azzzz=A"), -104);
    }

    /** "a sound (a capital letter from A to Z, or "_": no sound)". */
    private static void soundOfARule() {
        for (char sound = 'A'; sound <= 'Z'; sound++) {
            SoundSpeller x = with("a=" + sound + ",:a");
            Check.due("sound " + sound, x.rule(0, 1), sound);
            Check.due("heard " + sound, row(x, 0, 1) + x.word(0, 2), sound + "1");
        }
        SoundSpeller y = with("a=_,:a");
        Check.due("no sound", y.rule(0, 1), 0);
        Check.due("none is heard", y.word(0, 2), 0);
        Check.due("but the rule is used", y.word(0, 6), 1);
    }

    /** "No two rules have the same letters and the same side." */
    private static void noTwoRulesAlike() {
        String[] sides = {"", "^", "$", "+", "-", "<"};
        for (String one : sides) {
            for (String other : sides) {
                SoundSpeller x = with("ab=A" + one);
                int due = one.equals(other) ? NOT_POSSIBLE : 1;
                Check.due("sides '" + one + "', '" + other + "'", enter(x, "ab=B" + other), due);
                SoundSpeller y = new SoundSpeller();
                due = one.equals(other) ? NOT_POSSIBLE : 2;
                Check.due("at once '" + one + "', '" + other + "'", enter(y, "ab=B" + one + ",ab=_" + other), due);
            }
        }
        String[] unlike = {"a=A", "b=A", "ba=A", "abc=A", "xab=A", "aab=A"};
        for (String rule : unlike) {
            Check.due("unlike " + rule, enter(with("ab=A"), rule), 1);
        }
        SoundSpeller z = with("ab=A");
        z.removeRule(0);
        Check.due("there no more", enter(z, "ab=A"), 1);
    }

    private static String heard(String rules, String word) {
        SoundSpeller x = with(rules, ":" + word);
        return row(x, 0, 1);
    }

    /** "1 only at the beginning of a word". */
    private static void sideAtTheBeginning() {
        Check.due("^ alone", heard("b=X^", "b"), "X");
        Check.due("^ at the first letter", heard("b=X^", "bb"), "Xb");
        Check.due("^ at the second", heard("b=X^", "ab"), "ab");
        Check.due("^ behind a silent letter", heard("a=_,b=X^", "ab"), "b");
    }

    /** "2 only at its end". */
    private static void sideAtTheEnd() {
        Check.due("$ alone", heard("b=X$", "b"), "X");
        Check.due("$ at the last letter", heard("b=X$", "bb"), "bX");
        Check.due("$ ahead of the last", heard("b=X$", "ba"), "ba");
        Check.due("$ of four letters", heard("abcd=X$", "abcdabcd"), "abcdX");
        Check.due("$ ahead of a silent letter", heard("a=_,b=X$", "ba"), "b");
        Check.due("$ at the twelfth letter", heard("b=X$", "bbbbbbbbbbbb"), "bbbbbbbbbbbX");
    }

    /** "3 only ahead of a vowel (a, e, i, o, u)". */
    private static void sideAheadOfAVowel() {
        for (char c = 'a'; c <= 'z'; c++) {
            boolean vowel = "aeiou".indexOf(c) >= 0;
            Check.due("+ ahead of " + c, heard("zz=X+", "zz" + c), (vowel ? "X" : "zz") + c);
        }
        Check.due("+ at the end", heard("b=X+", "ab"), "ab");
        Check.due("+ two ahead of a vowel", heard("b=X+", "bca"), "bca");
    }

    /** "4 only ahead of another letter than a vowel, or at the end". */
    private static void sideAheadOfNoVowel() {
        for (char c = 'a'; c <= 'z'; c++) {
            boolean vowel = "aeiou".indexOf(c) >= 0;
            Check.due("- ahead of " + c, heard("q=X-", "q" + c + "a"),
                    (vowel ? "q" : "X") + c + "a");
        }
        Check.due("- at the end", heard("b=X-", "ab"), "aX");
        Check.due("- alone", heard("b=X-", "b"), "X");
    }

    /** "5 only behind a vowel". */
    private static void sideBehindAVowel() {
        for (char c = 'a'; c <= 'z'; c++) {
            boolean vowel = "aeiou".indexOf(c) >= 0;
            Check.due("< behind " + c, heard("zz=X<", c + "zz"), c + (vowel ? "X" : "zz"));
        }
        Check.due("< at the beginning", heard("b=X<", "b"), "b");
        Check.due("< two behind a vowel", heard("b=X<", "acb"), "acb");
    }

    /** A side holds for the letters of the word, whatever sounds they have. */
    private static void sidesLookAtLetters() {
        Check.due("+ ahead of a silent vowel", heard("b=X+,a=_", "ba"), "X");
        Check.due("+ ahead of a vowel with a sound", heard("b=X+,a=Q", "ba"), "XQ");
        Check.due("- ahead of a silent letter", heard("b=X-,c=_", "bca"), "Xa");
        Check.due("< behind a silent vowel", heard("b=X<,a=_", "ab"), "X");
        Check.due("< behind a vowel inside another rule", heard("b=X<,ca=Q", "cab"), "QX");
        Check.due("< behind a letter that sounds a vowel", heard("b=X<,c=A", "cb"), "Ab");
    }

    /** "the one with the most letters is used", even against a side. */
    private static void mostLettersFirst() {
        String[] sides = {"^", "$", "+", "-", "<"};
        String[] words = {"bcx", "abc", "bca", "bcx", "abc"};
        String[] dues = {"Lx", "aL", "La", "Lx", "aL"};
        for (int i = 0; i < sides.length; i++) {
            Check.due("longer ahead of " + sides[i], heard("b=S" + sides[i] + ",bc=L", words[i]), dues[i]);
            Check.due("longer behind, " + sides[i], heard("bc=L,b=S" + sides[i], words[i]), dues[i]);
        }
        Check.due("four ahead of three", heard("abc=T,abcd=F", "abcd"), "F");
        Check.due("three, as four don't stand there", heard("abc=T,abcd=F", "abce"), "Te");
        Check.due("three, as the word is too short", heard("abc=T,abcd=F", "abc"), "T");
        Check.due("shorter, as the side doesn't hold", heard("ab=L^,a=S", "cab"), "cSb");
    }

    /** "of several one with a side ahead of one without". */
    private static void sideAheadOfNone() {
        String[] sides = {"^", "$", "+", "-", "<"};
        String[] words = {"bx", "ab", "ba", "bx", "ab"};
        String[] dues = {"Sx", "aS", "Sa", "Sx", "aS"};
        for (int i = 0; i < sides.length; i++) {
            Check.due("side ahead, " + sides[i], heard("b=N,b=S" + sides[i], words[i]), dues[i]);
            Check.due("none behind, " + sides[i], heard("b=S" + sides[i] + ",b=N", words[i]), dues[i]);
        }
        Check.due("none, as the side doesn't hold", heard("b=S^,b=N", "ab"), "aN");
    }

    /** "of these the lowest one". */
    private static void lowestOfSeveral() {
        Check.due("lowest of two sides", heard("b=A^,b=B$", "b"), "A");
        Check.due("the other way", heard("b=B$,b=A^", "b"), "B");
        Check.due("lowest of three", heard("b=N,b=C<,b=B$,b=D-", "ab"), "aC");
        SoundSpeller x = withAllRules();
        x.removeRule(0);
        x.removeRule(0);
        enter(x, "zz=Y^,zz=Z$,:zz");
        Check.due("28 ahead of 29", row(x, 0, 1) + x.at(0, 3, 1), "Y28");
        x.moveRule(29, 28);
        Check.due("moved", row(x, 0, 1) + x.at(0, 3, 1), "Z28");
    }

    /** "its sound (if any) comes behind the others, and the word goes on behind its letters." */
    private static void soundsAndSteps() {
        Check.due("goes on behind one", heard("a=A", "aaa"), "AAA");
        Check.due("goes on behind four", heard("aaaa=A", "aaaaaaaaaaaa"), "AAA");
        Check.due("one is left", heard("aaaa=A", "aaaaa"), "Aa");
        Check.due("the letters inside are passed", heard("abc=X,bc=Y,c=Z", "abcc"), "XZ");
        Check.due("twelve small letters", heard("z=Z", "abcdefghijkl"), "abcdefghijkl");
        Check.due("twelve sounds", heard("z=Z", "zzzzzzzzzzzz"), "ZZZZZZZZZZZZ");
        Check.due("silent ones between", heard("h=_", "hahhbh"), "ab");
    }

    // ---- NEW SPELLING

    /** "Each sound from A to Z has a sign, ... (at first the small letter of itself)". */
    private static void signsAtFirst() {
        SoundSpeller x = new SoundSpeller();
        for (char c = 'A'; c <= 'Z'; c++) {
            Check.due("at first " + c, x.sign(c, 0), c + 32);
            Check.due("at first one letter " + c, x.sign(c, 1), NONE);
        }
        Check.due("ahead of A", x.sign('@', 0), UNKNOWN);
        Check.due("behind Z", x.sign('[', 0), UNKNOWN);
    }

    /** "a row of one or two letters from a to z"; "small letters as sounds are written as they are". */
    private static void signsOfOneOrTwo() {
        Check.due("no letter", enter(new SoundSpeller(), "A="), -102);
        Check.due("no letter, another entry", enter(new SoundSpeller(), "A=,:a"), -102);
        Check.due("three letters", enter(new SoundSpeller(), "A=azz"), -104);
        SoundSpeller x = with("a=A,z=Z,A=z,Z=az,:abz");
        Check.due("one and two", row(x, 0, 2), "zbaz");
        Check.due("signs are not heard again", row(x, 0, 1), "AbZ");
        enter(x, "Z=q,A=bb");
        Check.due("two and one", row(x, 0, 2), "bbbq");
        Check.due("of two letters", x.count(10), 1);
        Check.due("others stay", x.sign('B', 0) + x.sign('Y', 0), 'b' + 'y');
    }

    /** "if it would be empty, it is the word itself". */
    private static void emptySpelling() {
        SoundSpeller x = with("a=_,:a,:aa!,:aaa',:ab");
        Check.due("plain", row(x, 0, 2) + x.word(0, 3), "a1");
        Check.due("kept", row(x, 1, 2) + x.word(1, 3), "aa2");
        Check.due("marked", row(x, 2, 2) + x.word(2, 3), "aaa'4");
        Check.due("not empty", row(x, 3, 2) + x.word(3, 3), "b1");
        Check.due("no sounds", x.word(0, 2) + x.word(1, 2) + x.word(2, 2), 0);
        dueConverted(x, "aaaa aaaaaaaaaaaa", false, "aaaa aaaaaaaaaaaa");
        dueConverted(x, "a aaa' b", true, "a aaa ab");
    }

    /** Twelve sounds with two letters each, and an apostrophe behind them. */
    private static void longestSpelling() {
        SoundSpeller x = with("a=A,A=xy,:aaaaaaaaaaaa'");
        Check.due("length", x.word(0, 3), 25);
        Check.due("all of it", row(x, 0, 2), "xyxyxyxyxyxyxyxyxyxyxyxy'");
        Check.due("its end", x.at(0, 2, 24), '\'');
        Check.due("behind its end", x.at(0, 2, 25), NONE);
        dueConverted(x, "aaaaaaaaaaaa", false, "xyxyxyxyxyxyxyxyxyxyxyxy'");
        dueConverted(x, "xyxyxyxyxyxyxyxyxyxyxyxy'", true, "aaaaaaaaaaaa");
        Check.due("comes back", x.word(0, 5), 1);
    }

    // ---- KEPT WORDS, HOMOGRAPHS

    /** "There are at most 20 words in the book, numbered from 0". */
    private static void atMostTwentyWords() {
        SoundSpeller x = new SoundSpeller();
        Check.due("no word 0 of none", x.word(0, 0), UNKNOWN);
        enter(x, ":a");
        Check.due("word 0 of one", x.word(0, 1), 1);
        Check.due("no word 1 of one", x.word(1, 1), UNKNOWN);
        SoundSpeller y = withAllWords();
        Check.due("twenty words", y.count(1), 20);
        Check.due("word 0 of twenty", row(y, 0, 0), "a");
        Check.due("word 19 of twenty", row(y, 19, 0), "t");
        Check.due("no word 20 of twenty", y.word(20, 0), UNKNOWN);
        Check.due("one more", enter(y, ":u"), FULL);
        Check.due("still twenty", y.count(1), 20);
        Check.due("word 19 stays", row(y, 19, 0), "t");
        y.removeWord(0);
        Check.due("two more are too many", enter(y, ":u,:v"), FULL);
        Check.due("19 stay", y.count(1), 19);
        Check.due("one more has room", enter(y, ":u!"), 1);
        Check.due("it is the last", row(y, 19, 0) + y.word(19, 0), "u1");
        SoundSpeller z = with("a=A,b=B,c=C,d=D,e=E,f=F,g=G,h=H,i=I,j=J,k=K,l=L,m=M,n=N,o=O", "p=P,q=Q,r=R,s=S,t=T");
        Check.due("twenty rules leave room for words", enter(z, ":a,:b"), 2);
        SoundSpeller w = withAllWords();
        Check.due("twenty words leave room for rules", enter(w, "a=A,b=B,A=x"), 3);
    }

    /** "each of 1 to 12 letters". */
    private static void lettersOfAWord() {
        Check.due("no letter", enter(new SoundSpeller(), ":"), -101);
        Check.due("no letter, a kind", enter(new SoundSpeller(), ":!"), -101);
        String twelve = "zabcdefghijz";
        for (int many = 1; many <= 12; many++) {
            SoundSpeller x = with(":" + twelve.substring(0, many));
            Check.due("letters of " + many, row(x, 0, 0) + x.word(0, 1), twelve.substring(0, many) + many);
        }
        Check.due("thirteen letters", enter(new SoundSpeller(), ":zabcdefghijzz"), -113);
        Check.due("thirteen letters, a kind", enter(new SoundSpeller(), ":zabcdefghijzz!"), -113);
    }

    /** "all unlike". */
    private static void allWordsUnlike() {
        String[] kinds = {"", "!", "'"};
        for (String one : kinds) {
            for (String other : kinds) {
                Check.due("twice " + one + other, enter(with(":ab" + one), ":ab" + other), NOT_POSSIBLE);
                Check.due("at once " + one + other, enter(new SoundSpeller(), ":ab" + one + ",:ab" + other), NOT_POSSIBLE);
            }
        }
        String[] unlike = {":a", ":b", ":ba", ":abc", ":xab", ":aab"};
        for (String word : unlike) {
            Check.due("unlike " + word, enter(with(":ab"), word), 1);
        }
        SoundSpeller z = with(":ab");
        z.removeWord(0);
        Check.due("there no more", enter(z, ":ab"), 1);
        Check.due("a new spelling is no word", enter(with("a=B,:a"), ":b"), 1);
    }

    /** "0 plain, 1 kept (its new spelling is the word itself), 2 marked (... an apostrophe at its end)". */
    private static void kindsOfWords() {
        SoundSpeller x = with("c=K,K=kh,:cac,:cec!,:cic'");
        Check.due("kinds", words(x), "cac0 cec1 cic2");
        Check.due("plain", row(x, 0, 2), "khakh");
        Check.due("kept", row(x, 1, 2), "cec");
        Check.due("marked", row(x, 2, 2), "khikh'");
        Check.due("sounds as if plain", row(x, 0, 1) + row(x, 1, 1) + row(x, 2, 1), "KaKKeKKiK");
        dueConverted(x, "cac cec cic", false, "khakh cec khikh'");
    }

    /** "any other word is written like a plain one". */
    private static void wordsOutsideTheBook() {
        dueConverted(with("c=K,:cat!"), "ca cat cats scat", false, "ka cat kats skat");
        dueConverted(with("c=K,:cat'"), "ca cat cats scat", false, "ka kat' kats skat");
        dueConverted(new SoundSpeller(), "a abcdefghijkl", false, "a abcdefghijkl");
        dueConverted(with("c=K"), "cat", false, "kat");
    }

    /** "if there is just one, it is this one". */
    private static void backToJustOne() {
        dueConverted(with("c=K,:cat"), "kat", true, "cat");
        dueConverted(with("c=K,:cat!"), "cat", true, "cat");
        dueConverted(with("c=K,:cat'"), "kat'", true, "cat");
        dueConverted(with("c=K,:cat',:kat"), "kat' kat", true, "cat kat");
        dueConverted(with("a=A,A=xy,:aa,:a"), "xyxy xy", true, "aa a");
        SoundSpeller x = withAllWords();
        enter(x, "t=Z");
        dueConverted(x, "z a", true, "t a");
    }

    /** "if there is none, the new spelling itself, without an apostrophe at its end". */
    private static void backToNone() {
        dueConverted(new SoundSpeller(), "kat kat'", true, "kat kat");
        dueConverted(with("c=K,:cat"), "kat'", true, "kat");
        dueConverted(with("c=K,:cat"), "cat", true, "cat");
        dueConverted(with("c=K,:cat"), "ka", true, "ka");
        dueConverted(with("c=K,:cat"), "kats", true, "kats");
        dueConverted(with("c=K,:cat'"), "kat", true, "kat");
        dueConverted(with("c=K,:cat!"), "kat cat'", true, "kat cat");
        dueConverted(new SoundSpeller(), "abcdefghijklmnopqrstuvwx'", true, "abcdefghijklmnopqrstuvwx");
    }

    /** "if there are several (a collision), the lowest one". */
    private static void backToSeveral() {
        SoundSpeller x = with("c=K,:cat,:kat");
        dueConverted(x, "kat", true, "cat");
        dueConverted(with("c=K,:kat,:cat"), "kat", true, "kat");
        dueConverted(with("c=K,:kat!,:cat"), "kat", true, "kat");
        dueConverted(with("c=K,:dog,:cat',:kat'"), "kat' kat", true, "cat kat");
        x.removeWord(0);
        dueConverted(x, "kat", true, "kat");
    }

    /** "A word of the book comes back if it is converted and converted back to itself." */
    private static void comesBack() {
        SoundSpeller x = with("c=K,:cat,:kat,:dog,:cut',:kut',:cot!,:kot");
        String all = "";
        for (int word = 0; word < 7; word++) {
            all += x.word(word, 5);
        }
        Check.due("which come back", all, "1011011");
        Check.due("how many", x.count(3), 5);
        for (int word = 0; word < 7; word++) {
            convert(x, row(x, word, 0), false);
            x.takeResult();
            x.convert(true);
            Check.due("there and back " + word, resultOf(x).equals(row(x, word, 0)) ? 1 : 0, x.word(word, 5));
        }
    }

    // ---- TEXTS

    /** "There is a text of at most 60 characters, empty at first." */
    private static void textOfSixty() {
        SoundSpeller x = new SoundSpeller();
        Check.due("empty at first", x.count(9), 0);
        for (int i = 0; i < 60; i++) {
            Check.due("type " + i, x.type(SIXTY.charAt(i)), i + 1);
        }
        Check.due("sixty", x.count(9), 60);
        Check.due("one more", x.type('a'), FULL);
        Check.due("still sixty", x.count(9), 60);
        Check.due("all of it is converted", x.convert(false), 60);
        Check.due("and as typed", resultOf(x), SIXTY);
        Check.due("there is no word of 61", x.result(60), NONE);
    }

    // ---- HISTORY

    /** "A history of at most 4 states is kept; when one more is recorded, the oldest one is dropped". */
    private static void historyOfFour() {
        SoundSpeller x = new SoundSpeller();
        Check.due("empty", x.count(8), 0);
        Check.due("nothing to undo", x.undo(), NONE);
        for (int acts = 1; acts <= 7; acts++) {
            enter(x, ":" + (char) ('a' + acts));
            Check.due("states after " + acts, x.count(8), Math.min(acts, 4));
        }
        for (int left = 3; left >= 0; left--) {
            Check.due("undo, left " + left, x.undo(), left);
            Check.due("states, left " + left, x.count(8), left);
            Check.due("words, left " + left, words(x), "b0 c0 d0 e0 f0 g0".substring(0, 3 * (left + 3) - 1));
        }
        Check.due("the oldest ones are gone", x.undo(), NONE);
        Check.due("which changes nothing", words(x), "b0 c0 d0");
        enter(x, ":z");
        Check.due("one again", x.count(8), 1);
        Check.due("undone", x.undo(), 0);
        Check.due("as before", words(x), "b0 c0 d0");
    }

    /** "Each call of a method that is described as an act, and returns no error and not NONE, records ...". */
    private static void everyActIsRecorded() {
        String before = "a=A,b=B^,c=A,:a,:c,:d!";
        String[] names = {"readEntries", "removeRule", "moveRule", "removeWord", "setKind", "markCollisions", "restore"};
        for (int act = 0; act < names.length; act++) {
            SoundSpeller x = with(before);
            x.keep();
            String state = state(x);
            if (act == 0) {
                write(x, "Z=zz,:x,e=E");
            }
            Check.due(names[act] + " is done", act(x, act) >= 0 ? 1 : 0, 1);
            Check.due(names[act] + " records once", x.count(8), 2);
            Check.due(names[act] + " is undone", x.undo(), 1);
            Check.due(names[act] + ", as before", state(x), state);
            Check.due(names[act] + ", one left", x.undo(), 0);
            Check.due(names[act] + ", empty", x.count(0) + x.count(1), 0);
        }
    }

    private static int act(SoundSpeller x, int act) {
        switch (act) {
            case 0:
                return x.readEntries();
            case 1:
                return x.removeRule(1);
            case 2:
                return x.moveRule(0, 2);
            case 3:
                return x.removeWord(1);
            case 4:
                return x.setKind(0, 2);
            case 5:
                return x.markCollisions();
            default:
                return x.restore();
        }
    }

    /** Methods that are not described as an act record nothing, whether they answer an error or not. */
    private static void whatIsNoAct() {
        SoundSpeller x = with(":ab,a=A");
        x.undo();
        Check.due("undo", x.count(8), 0);
        enter(x, ":ab,a=A");
        x.keep();
        x.type(',');
        x.clearText();
        convert(x, "ab", false);
        x.convert(true);
        x.takeResult();
        x.collideWith('A', 'b');
        x.rule(0, 3);
        x.letterOf(0, 0);
        x.sign('A', 0);
        x.word(0, 5);
        x.at(0, 3, 0);
        x.result(0);
        x.count(3);
        Check.due("none of these", x.count(8), 1);
    }

    /** "There is one snapshot, empty at first." */
    private static void oneSnapshot() {
        SoundSpeller x = with(":a");
        Check.due("empty at first", x.restore(), NONE);
        Check.due("nothing is changed", words(x) + x.count(8), "a01");
        Check.due("kept", x.keep(), 1);
        enter(x, ":b");
        Check.due("kept in its place", x.keep(), 2);
        enter(x, ":c");
        Check.due("the later one", x.restore(), 2);
        Check.due("is restored", words(x), "a0 b0");
        x.undo();
        Check.due("the snapshot is no part of a state", x.restore(), 2);
    }

    /** "A state is everything but the text, the history, the snapshot and the result." */
    private static void whatAStateIs() {
        SoundSpeller x = with("c=K^,K=kk,:cat!");
        String state = state(x);
        x.keep();
        enter(x, "a=_,A=bc,K=q,:a'");
        x.setKind(0, 2);
        convert(x, "cat a", false);
        Check.due("result", resultOf(x), "qt' a'");
        Check.due("restore", x.restore(), 1);
        Check.due("rules, signs, words", state(x), state);
        Check.due("text and result stay", x.count(9) + resultOf(x), "5qt' a'");
        Check.due("undo", x.undo(), 3);
        Check.due("undo", x.undo(), 2);
        Check.due("undo", x.undo(), 1);
        Check.due("rules, signs, words again", state(x), state);
        Check.due("text and result stay again", x.count(9) + resultOf(x), "5qt' a'");
    }

    /** "An object is used for at most 512 calls after it has been made". */
    private static void fiveHundredAndTwelveCalls() {
        SoundSpeller x = new SoundSpeller();
        for (char c : "a=_,b=_".toCharArray()) {
            x.type(c);
        }
        Check.due("entries", x.readEntries(), 2);
        for (int call = 9; call <= 511; call++) {
            Check.due("call " + call, x.moveRule(call % 2, 1 - call % 2), 0);
        }
        Check.due("call 512", x.count(8), 4);
    }
}
