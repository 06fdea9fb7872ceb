/** Each promise of the document: ordinary inputs, the edges that it names, and wrong inputs. */
public final class PromiseTest extends SpellerCase {
    private PromiseTest() {
    }

    public static void main(String[] args) {
        constants();
        newObject();
        readEntriesDoesAll();
        readEntriesFaults();
        readEntriesRefuses();
        readEntriesFull();
        removeRule();
        moveRule();
        removeWord();
        setKind();
        markCollisions();
        markCollisionsAgainstKept();
        type();
        clearText();
        convertThere();
        convertBack();
        convertFaults();
        convertLongest();
        takeResult();
        undo();
        historyOfFour();
        whatIsNoAct();
        errorsChangeNothing();
        keepAndRestore();
        rule();
        bestRule();
        sides();
        letterOf();
        sign();
        word();
        at();
        result();
        collideWith();
        count();
        exampleOfTheReadme();
        Check.end();
    }

    private static void exampleOfTheReadme() {
        SoundSpeller x = new SoundSpeller();
        Check.due("entries of the readme", enter(x, "th=T,T=dh,e=_$,:the!"), 4);
        dueConverted(x, "the tithe", false, "the tidh");
        Check.due("result(7) of the readme", x.result(7), 'h');
    }

    // ---- promises

    private static void constants() {
        Check.due("UNKNOWN", UNKNOWN, -1);
        Check.due("BAD_VALUE", BAD, -2);
        Check.due("FULL", FULL, -3);
        Check.due("NOT_POSSIBLE", NOT_POSSIBLE, -4);
        Check.due("NONE", NONE, -5);
    }

    private static void newObject() {
        SoundSpeller x = new SoundSpeller();
        for (int what = 0; what <= 10; what++) {
            Check.due("new count " + what, x.count(what), 0);
        }
        for (char c = 'A'; c <= 'Z'; c++) {
            Check.due("new sign " + c, x.sign(c, 0), c - 'A' + 'a');
            Check.due("new sign " + c + " 1", x.sign(c, 1), NONE);
        }
        Check.due("new result", x.result(0), NONE);
        Check.due("new undo", x.undo(), NONE);
        Check.due("new restore", x.restore(), NONE);
        Check.due("new mark", x.markCollisions(), NONE);
        Check.due("new rule", x.rule(0, 0), UNKNOWN);
        Check.due("new word", x.word(0, 0), UNKNOWN);
        Check.due("new takeResult", x.takeResult(), 0);
        Check.due("two objects", with("a=B,:a").count(0) * 10 + x.count(0), 10);
    }

    private static void readEntriesDoesAll() {
        SoundSpeller x = new SoundSpeller();
        Check.due("mixed", enter(x, "th=T,T=dh,:that,e=_$,:the!,:tea'"), 6);
        Check.due("mixed rules", x.count(0), 2);
        Check.due("mixed words", x.count(1), 3);
        Check.due("mixed state", state(x).substring(0, 50), "th=84/0 e=0/2 :that/0/dhat :the/1/the :tea/2/tea' ");
        Check.due("text stays", x.count(9), 32);
        Check.due("one act", x.undo(), 0);
        Check.due("one act, rules", x.count(0) + x.count(1) + x.count(10), 0);
        Check.due("all sides", enter(x, "a=A,a=B^,a=C$,a=D+,a=E-,a=F<"), 6);
        for (int i = 0; i < 6; i++) {
            Check.due("side " + i, x.rule(i, 2), i);
            Check.due("sound " + i, x.rule(i, 1), 'A' + i);
        }
        Check.due("longest parts", enter(x, "wxyz=Z-,:abcdefghijkl!,Q=qu"), 3);
        Check.due("longest word", row(x, 0, 0), "abcdefghijkl");
        Check.due("shortest parts", enter(x, ":z,Z=a"), 2);
        Check.due("sign of z", x.sign('Z', 0), 'a');
        Check.due("sign twice", enter(x, "Z=bc,Z=d"), 2);
        Check.due("last sign counts", x.sign('Z', 0), 'd');
        Check.due("last sign is short", x.sign('Z', 1), NONE);
        Check.due("same sign again is an act", x.count(8), 4);
        Check.due("sixty characters", enter(x, ":b,:c,:d,:e,:f,:g,:h,:i,:j,:k,:l,:m,:n,:o,:p,:q,:rr,:ss,A=bc"), 19);
        Check.due("text of sixty", x.count(9), 60);
    }

    private static void readEntriesFaults() {
        String[] texts = {
            "", ",", " ", "=", "!", "a", "a=", "a=b", "a= ", "a=A,", "a=A ", "a=A^^", "a=A*", "a=A=", "a=A,,b=B",
            "abcd", "abcde=A", "a1=A", "aB=C", "_=A", "A", "A=", "A=B", "A=_", "A=a1", "A=abc", "A=ab,", "AB=a",
            "A=a^", "A=a!", ":", ":,", ":a,", ":A", ":a!!", ":a!'", ":a'!", ":a''", ":a^", ":a:", ":abcdefghijklm",
            ":abcdefghijkl.", ":!", ":'", "a=[", "a=@", "A=`", "A={", "[=a", "@=a", "`=A", "{=A", "a=A;", "a=A/",
            "a=A%", "a=A#", "a=A.", "a=A,A=b,:c,d", "\u0161=A", "a\u0101=A", "a=\u0141", "a=A\u015e", "a=A\u012c:b",
        };
        int[] faults = {
            0, 0, 0, 0, 0, 1, 2, 2, 2, 4, 3, 4, 3, 3, 4,
            4, 4, 1, 1, 0, 1, 2, 2, 2, 3, 4, 5, 1,
            3, 3, 1, 1, 3, 1, 3, 3, 3, 3, 2, 2, 13,
            13, 1, 1, 2, 2, 2, 2, 0, 0, 0, 0, 3, 3,
            3, 3, 3, 12, 0, 1, 2, 3, 3,
        };
        for (int i = 0; i < texts.length; i++) {
            SoundSpeller x = new SoundSpeller();
            String before = state(x);
            Check.due("fault of " + texts[i], enter(x, texts[i]), -100 - faults[i]);
            Check.due("nothing done of " + texts[i], state(x), before);
            Check.due("no act of " + texts[i], x.count(8), 0);
            Check.due("text stays " + texts[i], x.count(9), texts[i].length());
        }
    }

    private static void readEntriesRefuses() {
        SoundSpeller x = with("ab=A,ab=B^,:cat");
        String before = state(x);
        Check.due("rule there", enter(x, "ab=C"), NOT_POSSIBLE);
        Check.due("rule there, side", enter(x, "ab=_^"), NOT_POSSIBLE);
        Check.due("word there", enter(x, ":dog,:cat"), NOT_POSSIBLE);
        Check.due("word there, kind", enter(x, ":cat!"), NOT_POSSIBLE);
        Check.due("rule twice", enter(x, "x=A,x=B"), NOT_POSSIBLE);
        Check.due("word twice", enter(x, ":x,:x'"), NOT_POSSIBLE);
        Check.due("there, then new", enter(x, ":cat,:new,S=t"), NOT_POSSIBLE);
        Check.due("fault ahead of there", enter(x, ":cat,:"), -106);
        Check.due("nothing done", state(x), before);
        Check.due("one act only", x.count(8), 1);
        Check.due("other side", enter(x, "ab=A$,ba=A,a=A,abc=A"), 4);
        Check.due("part of a word", enter(x, ":ca,:cats,:act"), 3);
    }

    private static SoundSpeller withThirtyRules() {
        return with("a=A,b=A,c=A,d=A,e=A,f=A,g=A,h=A,i=A,j=A,k=A,l=A,m=A,n=A,o=A",
                "p=A,q=A,r=A,s=A,t=A,u=A,v=A,w=A,x=A,y=A,z=A,aa=A,ab=A,ac=A");
    }

    private static SoundSpeller withTwentyWords() {
        return with(":a,:b,:c,:d,:e,:f,:g,:h,:i,:j,:k,:l,:m,:n,:o,:p,:q,:r,:s");
    }

    private static void readEntriesFull() {
        SoundSpeller x = withThirtyRules();
        Check.due("29 rules", x.count(0), 29);
        Check.due("31 rules", enter(x, "ad=A,ae=A"), FULL);
        Check.due("still 29", x.count(0), 29);
        Check.due("30 rules", enter(x, "ad=A,Q=qu,:a"), 3);
        Check.due("31st", enter(x, "ae=A"), FULL);
        Check.due("full with more", enter(x, "Q=r,:b,ae=A"), FULL);
        Check.due("all or none", x.sign('Q', 0), 'q');
        Check.due("all or none, words", x.count(1), 1);
        Check.due("fault ahead of full", enter(x, "ae=A,"), -105);
        Check.due("there ahead of full", enter(x, "ae=A,ad=A"), NOT_POSSIBLE);
        Check.due("twice ahead of full", enter(x, "ae=A,ae=A"), NOT_POSSIBLE);
        Check.due("word there ahead of full", enter(x, "ae=A,:a"), NOT_POSSIBLE);
        Check.due("fifteen too many", enter(x, "a=A^,b=A^,c=A^,d=A^,e=A^,f=A^,g=A^,h=A^,i=A^,j=A^,k=A^,l=A^"), FULL);
        Check.due("30 stay", x.count(0), 30);
        Check.due("last rule", letters(x, 29), "ad");
        SoundSpeller y = withTwentyWords();
        Check.due("21 words", enter(y, ":t,:u"), FULL);
        Check.due("20 words", enter(y, ":t,a=A"), 2);
        Check.due("21st", enter(y, ":u"), FULL);
        Check.due("word there ahead of full words", enter(y, ":u,:t"), NOT_POSSIBLE);
        Check.due("twice ahead of full words", enter(y, ":u,:u"), NOT_POSSIBLE);
        Check.due("twenty more", enter(y, ":aa,:bb,:cc,:dd,:ee,:ff,:gg,:hh,:ii,:jj,:kk,:ll,:mm,:nn,:oo"), FULL);
        Check.due("rules go on", enter(y, "b=A"), 1);
        Check.due("last word", row(y, 19, 0), "t");
        Check.due("room again", y.removeWord(0), 19);
        Check.due("room again, 20", enter(y, ":u"), 1);
    }

    private static void removeRule() {
        SoundSpeller x = with("a=A,bc=B^,d=_,A=xy,:abcd");
        Check.due("remove -1", x.removeRule(-1), UNKNOWN);
        Check.due("remove 3", x.removeRule(3), UNKNOWN);
        Check.due("remove least", x.removeRule(LEAST), UNKNOWN);
        Check.due("remove most", x.removeRule(MOST), UNKNOWN);
        Check.due("no act yet", x.count(8), 1);
        Check.due("spelled before", row(x, 0, 2), "xybc");
        Check.due("remove 0", x.removeRule(0), 2);
        Check.due("moved up", letters(x, 0) + x.rule(0, 1) + "/" + x.rule(0, 2), "bc66/1");
        Check.due("moved up too", letters(x, 1) + x.rule(1, 1) + "/" + x.rule(1, 2), "d0/0");
        Check.due("spelled then", row(x, 0, 2), "abc");
        Check.due("sounds then", row(x, 0, 1) + x.word(0, 2), "abc3");
        Check.due("rules then", rulesAt(x, 0) + x.word(0, 6), "...11");
        Check.due("is an act", x.count(8), 2);
        Check.due("remove last", x.removeRule(1), 1);
        Check.due("gone", x.rule(1, 0), UNKNOWN);
        Check.due("remove the only one", x.removeRule(0), 0);
        Check.due("none left", x.removeRule(0), UNKNOWN);
        Check.due("spelled at last", row(x, 0, 2), "abcd");
        Check.due("undone", x.undo(), 3);
        Check.due("there again", letters(x, 0), "bc");
    }

    private static void moveRule() {
        SoundSpeller x = with("a=A^,a=B$,b=C,b=D<,:a,:ab,:aa!,:ba");
        Check.due("rule -1", x.moveRule(-1, 9), UNKNOWN);
        Check.due("rule 4", x.moveRule(4, 0), UNKNOWN);
        Check.due("place -1", x.moveRule(0, -1), BAD);
        Check.due("place 4", x.moveRule(0, 4), BAD);
        Check.due("places far", x.moveRule(0, MOST) + x.moveRule(3, LEAST), 2 * BAD);
        Check.due("there already", x.moveRule(2, 2), NONE);
        Check.due("no act yet", x.count(8), 1);
        Check.due("first side wins", row(x, 0, 2), "a");
        Check.due("move 0 to 3", x.moveRule(0, 3), 1);
        Check.due("other side wins", row(x, 0, 2), "b");
        Check.due("order", letters(x, 0) + letters(x, 1) + letters(x, 2) + letters(x, 3), "abba");
        Check.due("order of sounds", "" + (char) x.rule(0, 1) + (char) x.rule(1, 1) + (char) x.rule(2, 1) + (char) x.rule(3, 1), "BCDA");
        Check.due("order of sides", "" + x.rule(0, 2) + x.rule(1, 2) + x.rule(2, 2) + x.rule(3, 2), "2051");
        Check.due("is an act", x.count(8), 2);
        Check.due("without another spelling", x.moveRule(1, 2), 0);
        Check.due("an act too", x.count(8), 3);
        Check.due("back to the front", x.moveRule(3, 0), 1);
        Check.due("order then", "" + (char) x.rule(0, 1) + (char) x.rule(1, 1) + (char) x.rule(2, 1) + (char) x.rule(3, 1), "ABDC");
        Check.due("undone", x.undo(), 3);
        Check.due("as before", row(x, 0, 2), "b");
        SoundSpeller z = with("wxyz=W,abcd=A,efgh=E", "stuv=S,q=Q");
        Check.due("full lines", z.moveRule(1, 3), 0);
        Check.due("full lines down", letters(z, 0) + letters(z, 1) + letters(z, 2) + letters(z, 3) + letters(z, 4), "wxyzefghstuvabcdq");
        Check.due("full lines back", z.moveRule(3, 1), 0);
        Check.due("full lines up", letters(z, 0) + letters(z, 1) + letters(z, 2) + letters(z, 3) + letters(z, 4), "wxyzabcdefghstuvq");
        SoundSpeller w = with("a=A^,a=B$,:b,:a,:ca,:ab,:aba!");
        Check.due("second word only", w.moveRule(0, 1), 1);
        Check.due("its sounds", row(w, 1, 1), "B");
        Check.due("its rule", w.at(1, 3, 0), 0);
        SoundSpeller y = with("e=_^,e=I$,I=ee,:e,:ee,:re");
        Check.due("empty or not", row(y, 0, 2) + " " + row(y, 1, 2), "e ee");
        Check.due("one anew", y.moveRule(1, 0), 1);
        Check.due("one anew is", row(y, 0, 2), "ee");
    }

    private static void removeWord() {
        SoundSpeller x = with("c=K,:cat!,:cot,:cut'");
        Check.due("remove -1", x.removeWord(-1), UNKNOWN);
        Check.due("remove 3", x.removeWord(3), UNKNOWN);
        Check.due("remove far", x.removeWord(LEAST) + x.removeWord(MOST), 2 * UNKNOWN);
        Check.due("no act yet", x.count(8), 1);
        Check.due("remove 0", x.removeWord(0), 2);
        Check.due("moved up", row(x, 0, 0) + x.word(0, 0), "cot0");
        Check.due("moved up too", row(x, 1, 0) + x.word(1, 0) + row(x, 1, 2), "cut2kut'");
        Check.due("gone", x.word(2, 0), UNKNOWN);
        Check.due("uses are less", x.rule(0, 3), 2);
        Check.due("is an act", x.count(8), 2);
        Check.due("remove last", x.removeWord(1), 1);
        Check.due("remove the only one", x.removeWord(0), 0);
        Check.due("none left", x.removeWord(0), UNKNOWN);
        Check.due("undone", x.undo(), 3);
        Check.due("there again", row(x, 0, 0), "cot");
        SoundSpeller y = with(":abcdefghijkl,:bcdefghijklm", ":cdefghijklmn,:z");
        Check.due("remove a full line", y.removeWord(1), 3);
        Check.due("the others", row(y, 0, 0) + row(y, 1, 0) + row(y, 2, 0), "abcdefghijklcdefghijklmnz");
    }

    private static void setKind() {
        SoundSpeller x = with("c=K,:cat,:cot!");
        Check.due("word -1", x.setKind(-1, 0), UNKNOWN);
        Check.due("word 2", x.setKind(2, 7), UNKNOWN);
        Check.due("kind -1", x.setKind(0, -1), BAD);
        Check.due("kind 3", x.setKind(0, 3), BAD);
        Check.due("kinds far", x.setKind(0, LEAST) + x.setKind(0, MOST), 2 * BAD);
        Check.due("so already", x.setKind(0, 0), NONE);
        Check.due("so already, kept", x.setKind(1, 1), NONE);
        Check.due("no act yet", x.count(8), 1);
        Check.due("marked", x.setKind(0, 2), 0);
        Check.due("spelled marked", row(x, 0, 2), "kat'");
        Check.due("kept", x.setKind(0, 1), 2);
        Check.due("spelled kept", row(x, 0, 2), "cat");
        Check.due("plain", x.setKind(1, 0), 1);
        Check.due("spelled plain", row(x, 1, 2), "kot");
        Check.due("acts", x.count(8), 4);
        Check.due("undone", x.undo(), 3);
        Check.due("kept again", x.word(1, 0), 1);
    }

    private static void markCollisions() {
        SoundSpeller x = with("c=K,t=T,tt=T,:cat,:kat,:dog,:katt,:catt'");
        Check.due("collide", x.count(2), 3);
        Check.due("marks", x.markCollisions(), 2);
        Check.due("the first stays", x.word(0, 0), 0);
        Check.due("second is marked", x.word(1, 0), 2);
        Check.due("another stays", x.word(2, 0), 0);
        Check.due("fourth is marked", x.word(3, 0), 2);
        Check.due("not possible for all", x.count(2), 3);
        Check.due("spelled", row(x, 1, 2) + row(x, 3, 2) + row(x, 4, 2), "kat'kat'kat'");
        Check.due("is one act", x.count(8), 2);
        Check.due("marks no more", x.markCollisions(), NONE);
        Check.due("none is no act", x.count(8), 2);
        Check.due("undone", x.undo(), 1);
        Check.due("plain again", x.word(1, 0) + x.word(3, 0), 0);
    }

    private static void markCollisionsAgainstKept() {
        SoundSpeller x = with("c=K,:kat!,:cat,:cot!,:kot");
        Check.due("kept ahead", x.markCollisions(), 1);
        Check.due("marked behind kept", x.word(1, 0), 2);
        Check.due("kept stays", x.word(0, 0), 1);
        Check.due("no collision left", x.count(2), 0);
        SoundSpeller y = with("c=K,:cat,:kat!");
        Check.due("kept behind", y.markCollisions(), NONE);
        Check.due("collision left", y.count(2), 2);
        SoundSpeller z = with("c=K,:cat',:kat'");
        Check.due("marked ones", z.markCollisions(), NONE);
    }

    private static void type() {
        SoundSpeller x = new SoundSpeller();
        char[] odd = {0, 255, 256, 0xffff, ' ', 'a', '\''};
        for (int i = 0; i < 60; i++) {
            Check.due("type " + i, x.type(odd[i % odd.length]), i + 1);
        }
        Check.due("type 60", x.type('a'), FULL);
        Check.due("type 60 again", x.type('\0'), FULL);
        Check.due("length stays", x.count(9), 60);
        Check.due("no act", x.count(8), 0);
        Check.due("cleared", x.clearText(), 60);
        Check.due("type anew", x.type('a'), 1);
        Check.due("big characters are no letters", convert(x, "\u0161", false), -100);
        Check.due("nor apostrophes", convert(x, "a\u0127", true), -101);
        Check.due("nor blanks", convert(x, "a\u0120b", true), -101);
    }

    private static void clearText() {
        SoundSpeller x = new SoundSpeller();
        Check.due("clear empty", x.clearText(), 0);
        Check.due("convert", convert(x, "ab", false), 2);
        Check.due("clear two", x.clearText(), 2);
        Check.due("clear again", x.clearText(), 0);
        Check.due("length", x.count(9), 0);
        Check.due("result stays", x.count(7), 2);
        Check.due("no act", x.count(8), 0);
        Check.due("text is empty", x.readEntries(), -100);
    }

    private static void convertThere() {
        SoundSpeller x = with("c=K,ck=K,ee=I,I=ii,e=_$,th=T,T=dh,:cat!,:cot'");
        dueConverted(x, "a", false, "a");
        dueConverted(x, "cat cot cut", false, "cat kot' kut");
        dueConverted(x, "thee thick e eth", false, "dhii dhik e edh");
        dueConverted(x, "three the", false, "dhrii dh");
        dueConverted(x, "abcdefghijkl cats", false, "abkdefghijkl kats");
        Check.due("text stays", x.count(9), 17);
        Check.due("result length", x.count(7), 17);
        Check.due("no act", x.count(8), 1);
        SoundSpeller y = with("e=_,:e',:ee!,:eee");
        dueConverted(y, "e ee eee eeee", false, "e' ee eee eeee");
        dueConverted(y, "he ehe", false, "h h");
    }

    private static void convertBack() {
        SoundSpeller x = with("c=K,:cat,:kat,:cot',:cut!,:kot");
        dueConverted(x, "kat kot' kot cut kut", true, "cat cot kot cut kut");
        dueConverted(x, "kat' cat cot a'", true, "kat cat cot a");
        dueConverted(x, "abcdefghijklmnopqrstuvwx x", true, "abcdefghijklmnopqrstuvwx x");
        dueConverted(x, "abcdefghijklmnopqrstuvwx'", true, "abcdefghijklmnopqrstuvwx");
        Check.due("no act", x.count(8), 1);
        x.setKind(0, 2);
        dueConverted(x, "kat kat'", true, "kat cat");
        SoundSpeller y = with("a=A,A=xy,:aaaaaaaaaaaa'");
        dueConverted(y, "xyxyxyxyxyxyxyxyxyxyxyxy'", true, "aaaaaaaaaaaa");
        dueConverted(y, "xyxyxyxyxyxyxyxyxyxyxyxy", true, "xyxyxyxyxyxyxyxyxyxyxyxy");
    }

    private static void convertFaults() {
        String[] texts = {"", " ", "a ", "a  b", " a", "A", "a.b", "abcdefghijklm", "a'", "a' b", "ab 'c", "a''", "a'b",
            "abcdefghijklmnopqrstuvwxy", "ab,cd", "`", "{", "a{"};
        int[] there = {0, 0, 2, 2, 0, 0, 1, 12, 1, 1, 3, 1, 1, 12, 2, 0, 0, 1};
        int[] back = {0, 0, 2, 2, 0, 0, 1, -1, -1, -1, 3, 2, 2, 24, 2, 0, 0, 1};
        for (int i = 0; i < texts.length; i++) {
            SoundSpeller x = new SoundSpeller();
            convert(x, "old", false);
            Check.due("there fault of " + texts[i], convert(x, texts[i], false), -100 - there[i]);
            Check.due("result stays", resultOf(x), "old");
            Check.due("text stays", x.count(9), texts[i].length());
            if (back[i] >= 0) {
                Check.due("back fault of " + texts[i], convert(x, texts[i], true), -100 - back[i]);
                Check.due("result stays, back", resultOf(x), "old");
            } else {
                Check.due("back " + texts[i], convert(x, texts[i], true) > 0 ? 1 : 0, 1);
            }
        }
    }

    private static void convertLongest() {
        String words = "a a a a a a a a a a a a a a a a a a a a a a a a a a a a a a";
        Check.due("thirty words", convert(new SoundSpeller(), words, true), 59);
        SoundSpeller y = with("b=_,:abbbbbbbbbbb");
        Check.due("thirty of twelve", convert(y, words, true), 30 * 12 + 29);
        Check.due("last of them", y.result(388), 'b');
        Check.due("behind them", y.result(389), NONE);
        Check.due("too long for the text", y.takeResult(), FULL);
        SoundSpeller z = with("a=A,A=xy,:a'");
        Check.due("longest there", convert(z, words, false), 30 * 3 + 29);
        Check.due("longest word there", convert(z, "aaaaaaaaaaaa", false), 24);
    }

    private static void takeResult() {
        SoundSpeller x = with("a=A,A=xy");
        Check.due("empty result", x.takeResult(), 0);
        Check.due("empty text", x.count(9), 0);
        convert(x, "ba", false);
        Check.due("three", x.takeResult(), 3);
        Check.due("text length", x.count(9), 3);
        Check.due("result stays", resultOf(x), "bxy");
        Check.due("typed behind", x.type('a'), 4);
        Check.due("converted again", x.convert(false), 5);
        Check.due("what it is", resultOf(x), "bxyxy");
        Check.due("sixty", convert(x, "aaaaaaaaa aaaaaaaaa aaaaaaaaa bba", false), 61);
        Check.due("sixty-one is too long", x.takeResult(), FULL);
        Check.due("text stays", x.count(9), 33);
        Check.due("sixty are", convert(x, "aaaaaaaaa aaaaaaaaa aaaaaaaaa bbb", false), 60);
        Check.due("sixty fit", x.takeResult(), 60);
        Check.due("text of sixty", x.type('a'), FULL);
        Check.due("no act", x.count(8), 1);
    }

    private static void undo() {
        SoundSpeller x = with("a=A", ":a,A=xy", "b=_<");
        String all = state(x);
        Check.due("three acts", x.count(8), 3);
        convert(x, "aba", false);
        x.keep();
        Check.due("undo", x.undo(), 2);
        Check.due("rules then", x.count(0), 1);
        Check.due("text stays", x.count(9), 3);
        Check.due("result stays", resultOf(x), "xyxy");
        Check.due("undo 2", x.undo(), 1);
        Check.due("sign then", x.sign('A', 0), 'a');
        Check.due("words then", x.count(1), 0);
        Check.due("undo 3", x.undo(), 0);
        Check.due("rules at last", x.count(0), 0);
        Check.due("undo 4", x.undo(), NONE);
        Check.due("snapshot stays", x.restore(), 1);
        Check.due("restored all", state(x), all);
        Check.due("undo restore", x.undo(), 0);
        Check.due("empty again", x.count(0), 0);
    }

    private static void historyOfFour() {
        SoundSpeller x = new SoundSpeller();
        String[] rules = {"a=A", "b=A", "c=A", "d=A", "e=A", "f=A"};
        for (int i = 0; i < rules.length; i++) {
            enter(x, rules[i]);
            Check.due("states after " + i, x.count(8), Math.min(i + 1, 4));
        }
        for (int i = 3; i >= 0; i--) {
            Check.due("undo to " + i, x.undo(), i);
            Check.due("rules after undo " + i, x.count(0), i + 2);
        }
        Check.due("no more", x.undo(), NONE);
        enter(x, "z=Z");
        Check.due("recorded anew", x.undo(), 0);
        Check.due("last rule", letters(x, 1), "b");
    }

    private static void whatIsNoAct() {
        SoundSpeller x = with(":ab");
        x.keep();
        write(x, "ab");
        x.convert(false);
        x.convert(true);
        x.takeResult();
        x.clearText();
        x.collideWith('A', 'b');
        x.removeRule(0);
        x.setKind(0, 0);
        Check.due("states", x.count(8), 1);
    }

    private static void errorsChangeNothing() {
        SoundSpeller x = with("a=A,b=B^,:ab,:b!");
        String before = state(x);
        x.removeRule(2);
        x.moveRule(0, 2);
        x.moveRule(1, 1);
        x.removeWord(-1);
        x.setKind(0, 3);
        x.setKind(1, 1);
        x.markCollisions();
        x.restore();
        enter(x, "c=C,c=C");
        x.collideWith('A', 'b');
        Check.due("state", state(x), before);
        Check.due("states", x.count(8), 1);
        Check.due("undo is the one act", x.undo(), 0);
        Check.due("rules then", x.count(0), 0);
    }

    private static void keepAndRestore() {
        SoundSpeller x = with("a=A,:a,:b'");
        Check.due("no snapshot", x.restore(), NONE);
        Check.due("no act", x.count(8), 1);
        Check.due("keep", x.keep(), 2);
        Check.due("keep is no act", x.count(8), 1);
        String kept = state(x);
        enter(x, "A=xy,c=_$,:c");
        x.setKind(1, 1);
        String later = state(x);
        convert(x, "aaa", false);
        Check.due("restore", x.restore(), 2);
        Check.due("restored", state(x), kept);
        Check.due("restore is an act", x.count(8), 4);
        Check.due("text stays", x.count(9), 3);
        Check.due("result stays", x.count(7), 6);
        Check.due("undo restore", x.undo(), 3);
        Check.due("as before restore", state(x), later);
        Check.due("snapshot stays", x.restore(), 2);
        Check.due("again", x.restore(), 2);
        Check.due("restored again", state(x), kept);
        x.removeWord(0);
        Check.due("keep anew", x.keep(), 1);
        x.removeWord(0);
        Check.due("restore the newer", x.restore(), 1);
        Check.due("which is", row(x, 0, 0), "b");
        SoundSpeller y = new SoundSpeller();
        Check.due("keep nothing", y.keep(), 0);
        enter(y, "a=A,B=z,:a");
        Check.due("restore nothing", y.restore(), 0);
        Check.due("nothing", y.count(0) + y.count(1), 0);
        Check.due("sign of nothing", y.sign('B', 0), 'b');
    }

    private static void rule() {
        SoundSpeller x = with("abcd=Z,b=_$,a=A+,ab=B<,:abcdabcd,:bab!,:aab'");
        Check.due("rule -1", x.rule(-1, 0), UNKNOWN);
        Check.due("rule 4", x.rule(4, 9), UNKNOWN);
        Check.due("rules far", x.rule(MOST, 0) + x.rule(LEAST, 0), 2 * UNKNOWN);
        Check.due("what -1", x.rule(0, -1), BAD);
        Check.due("what 4", x.rule(0, 4), BAD);
        Check.due("letters", x.rule(0, 0) * 1000 + x.rule(1, 0) * 100 + x.rule(2, 0) * 10 + x.rule(3, 0), 4112);
        Check.due("sound", x.rule(0, 1), 'Z');
        Check.due("no sound", x.rule(1, 1), 0);
        Check.due("sides", x.rule(0, 2) * 1000 + x.rule(1, 2) * 100 + x.rule(2, 2) * 10 + x.rule(3, 2), 235);
        Check.due("used twice in a word", x.rule(0, 3), 2);
        Check.due("used in a kept one", x.rule(1, 3), 1);
        Check.due("used in a marked one", x.rule(2, 3), 1);
        Check.due("used behind a vowel", x.rule(3, 3), 1);
    }

    private static void bestRule() {
        SoundSpeller x = with("a=A,ab=B,abc=C,abcd=D,:abcdabcabax");
        Check.due("longest first", row(x, 0, 1), "DCBAx");
        Check.due("which", rulesAt(x, 0), "3333222110.");
        SoundSpeller y = with("ab=X,a=Y^,:ab,:ac");
        Check.due("more letters ahead of a side", row(y, 0, 1) + " " + row(y, 1, 1), "X Yc");
        SoundSpeller t = with("a=Y^,ab=X,ab=Z$,abc=V,:abd,:ac,:ab,:abc");
        Check.due("in any order", row(t, 0, 1) + " " + row(t, 1, 1) + " " + row(t, 2, 1) + " " + row(t, 3, 1), "Xd Yc Z V");
        SoundSpeller z = with("a=X,a=Y$,a=Z<,:a,:ea,:eac");
        Check.due("side ahead of none", row(z, 0, 1) + " " + row(z, 1, 1) + " " + row(z, 2, 1), "Y eY eZc");
        SoundSpeller w = with("a=Z<,a=Y$,a=X,:ea");
        Check.due("lowest of sides", row(w, 0, 1), "eZ");
        SoundSpeller v = with("bab=X,:babab,:ababab");
        Check.due("goes on behind its letters", row(v, 0, 1) + " " + row(v, 1, 1), "Xab aXab");
        SoundSpeller u = with("a=B,b=C,B=cc,:ab");
        Check.due("sounds are no letters", row(u, 0, 1) + row(u, 0, 2), "BCccc");
    }

    private static void sides() {
        dueSounds("b=X^", "bab", "Xab");
        dueSounds("ba=X^", "ba", "X");
        dueSounds("b=X$", "bab", "baX");
        dueSounds("ab=X$", "abab", "abX");
        dueSounds("ab=X$", "ab", "X");
        dueSounds("b=X+", "babbibobebub", "XabXiXoXeXub");
        dueSounds("b=X+", "bcbyb", "bcbyb");
        dueSounds("b=X-", "babcbyb", "baXcXyX");
        dueSounds("b=X-", "bebibobub", "bebibobuX");
        dueSounds("b=X<", "babebibobub", "baXeXiXoXuX");
        dueSounds("b=X<", "bbcbyb", "bbcbyb");
        dueSounds("a=_,b=X<", "bab", "bX");
        dueSounds("a=Q,b=X+", "bab", "XQb");
        dueSounds("a=X<", "aaa", "aXX");
        dueSounds("a=X+", "aaa", "XXa");
        dueSounds("a=X-", "aaa", "aaX");
        dueSounds("ab=X<", "abaabiab", "abaXiX");
        dueSounds("ab=X+", "abbaba", "abbXa");
    }

    private static void dueSounds(String rules, String word, String want) {
        SoundSpeller x = with(rules, ":" + word);
        Check.due("sounds of " + word + " by " + rules, row(x, 0, 1), want);
        Check.due("how many of " + word + " by " + rules, x.word(0, 2), want.length());
    }

    private static void letterOf() {
        SoundSpeller x = with("abcd=Z,x=_$");
        Check.due("rule -1", x.letterOf(-1, 0), UNKNOWN);
        Check.due("rule 2", x.letterOf(2, -1), UNKNOWN);
        Check.due("index -1", x.letterOf(0, -1), BAD);
        Check.due("index least", x.letterOf(0, LEAST), BAD);
        Check.due("letters", letters(x, 0) + letters(x, 1), "abcdx");
        Check.due("index 4", x.letterOf(0, 4), NONE);
        Check.due("index 1", x.letterOf(1, 1), NONE);
        Check.due("index most", x.letterOf(0, MOST), NONE);
    }

    private static void sign() {
        SoundSpeller x = with("A=xy,Z=q");
        Check.due("first", x.sign('A', 0), 'x');
        Check.due("second", x.sign('A', 1), 'y');
        Check.due("of z", x.sign('Z', 0), 'q');
        Check.due("one letter only", x.sign('Z', 1), NONE);
        Check.due("index 2", x.sign('A', 2), BAD);
        Check.due("index -1", x.sign('A', -1), BAD);
        Check.due("index far", x.sign('B', MOST) + x.sign('B', LEAST), 2 * BAD);
        char[] wrong = {'a', 'z', '@', '[', '_', 0, 0xffff, 0x141};
        for (char c : wrong) {
            Check.due("sound " + (int) c, x.sign(c, 5), UNKNOWN);
        }
        Check.due("short again", enter(x, "A=z"), 1);
        Check.due("no second", x.sign('A', 1), NONE);
    }

    private static void word() {
        SoundSpeller x = with("ck=K,e=_$,ee=I,I=ij,c=K,:cake,:cak,:kak!,:keck'");
        Check.due("word -1", x.word(-1, 0), UNKNOWN);
        Check.due("word 4", x.word(4, -1), UNKNOWN);
        Check.due("words far", x.word(MOST, 0) + x.word(LEAST, 0), 2 * UNKNOWN);
        Check.due("what -1", x.word(0, -1), BAD);
        Check.due("what 7", x.word(0, 7), BAD);
        int[][] want = {
            {0, 4, 3, 3, 3, 1, 2},
            {0, 3, 3, 3, 3, 0, 1},
            {1, 3, 3, 3, 3, 0, 0},
            {2, 4, 3, 4, 1, 1, 1},
        };
        for (int word = 0; word < want.length; word++) {
            for (int what = 0; what <= 6; what++) {
                Check.due("word " + word + " " + what, x.word(word, what), want[word][what]);
            }
        }
        SoundSpeller y = with("e=_,:e,:ee',:eeh!");
        Check.due("silent sounds", y.word(0, 2) + y.word(1, 2), 0);
        Check.due("silent length", y.word(0, 3) * 10 + y.word(1, 3), 13);
        Check.due("silent uses", y.word(0, 6) * 10 + y.word(1, 6), 12);
        Check.due("kept sounds", y.word(2, 2), 1);
        Check.due("kept length", y.word(2, 3), 3);
        Check.due("kept uses", y.word(2, 6), 2);
    }

    private static void at() {
        SoundSpeller x = with("ck=K,e=_$,ee=I,I=ij,:geeke!,:keck'");
        Check.due("word -1", x.at(-1, 0, 0), UNKNOWN);
        Check.due("word 2", x.at(2, 4, -1), UNKNOWN);
        Check.due("what -1", x.at(0, -1, 0), BAD);
        Check.due("what 4", x.at(0, 4, 99), BAD);
        for (int what = 0; what <= 3; what++) {
            Check.due("index -1 of " + what, x.at(0, what, -1), BAD);
            Check.due("index least of " + what, x.at(0, what, LEAST), BAD);
            Check.due("index most of " + what, x.at(0, what, MOST), NONE);
        }
        Check.due("letters", row(x, 0, 0) + " " + row(x, 1, 0), "geeke keck");
        Check.due("no more letters", x.at(0, 0, 5), NONE);
        Check.due("sounds", row(x, 0, 1) + " " + row(x, 1, 1), "gIk keK");
        Check.due("no more sounds", x.at(0, 1, 3), NONE);
        Check.due("spelled", row(x, 0, 2) + " " + row(x, 1, 2), "geeke kek'");
        Check.due("no more signs", x.at(1, 2, 4), NONE);
        Check.due("rules", rulesAt(x, 0) + " " + rulesAt(x, 1), ".22.1 ..00");
        Check.due("no rule", x.at(0, 3, 0), NONE);
        Check.due("no more rules", x.at(0, 3, 5), NONE);
        x.setKind(0, 0);
        Check.due("spelled plain", row(x, 0, 2), "gijk");
    }

    private static void result() {
        SoundSpeller x = with("a=A,A=xy");
        Check.due("index -1, empty", x.result(-1), BAD);
        Check.due("index 0, empty", x.result(0), NONE);
        convert(x, "ba ca", false);
        Check.due("index -1", x.result(-1), BAD);
        Check.due("index least", x.result(LEAST), BAD);
        Check.due("whole", resultOf(x), "bxy cxy");
        Check.due("blank", x.result(3), ' ');
        Check.due("index 7", x.result(7), NONE);
        Check.due("index most", x.result(MOST), NONE);
        convert(x, "a", true);
        Check.due("shorter", resultOf(x), "a");
    }

    private static void collideWith() {
        SoundSpeller x = with("c=C,k=K,C=ch,:cat,:kat,:sat,:cot!,:kot,:tat'");
        String before = state(x);
        char[] wrong = {'c', '@', '[', '_', 0, 0xffff};
        for (char c : wrong) {
            Check.due("sound " + (int) c, x.collideWith(c, '?'), UNKNOWN);
        }
        char[] bad = {'A', '`', '{', 0, '\'', 0xffff, 0x161};
        for (char c : bad) {
            Check.due("letter " + (int) c, x.collideWith('C', c), BAD);
        }
        Check.due("none", x.collideWith('C', 'x'), 0);
        Check.due("with k", x.collideWith('C', 'k'), 2);
        Check.due("with s", x.collideWith('C', 's'), 2);
        Check.due("k with c", x.collideWith('K', 'c'), 2);
        Check.due("marked one apart", x.collideWith('C', 't'), 0);
        Check.due("without use", x.collideWith('Z', 'a'), 0);
        Check.due("state stays", state(x), before);
        Check.due("no act", x.count(8), 1);
        enter(x, "C=k");
        Check.due("as it is", x.collideWith('C', 'k'), 2);
        Check.due("others collide meanwhile", x.collideWith('Z', 'a'), 2);
        Check.due("no more", x.collideWith('C', 'c'), 0);
        SoundSpeller y = with("a=A,b=B,c=C,:a,:b,:c,:x");
        Check.due("three", y.collideWith('A', 'b'), 2);
        enter(y, "B=x,C=x");
        Check.due("four", y.collideWith('A', 'x'), 4);
    }

    private static void count() {
        SoundSpeller x = with("c=K,ck=K,q=Q,Q=kw,e=_$,:cat,:kat!,:quite,:katt'");
        int[] want = {4, 4, 2, 3, 1, 15, 16, 0, 1, 0, 1};
        x.clearText();
        for (int what = 0; what < want.length; what++) {
            Check.due("count " + what, x.count(what), want[what]);
        }
        Check.due("count -1", x.count(-1), BAD);
        Check.due("count 11", x.count(11), BAD);
        Check.due("counts far", x.count(MOST) + x.count(LEAST), 2 * BAD);
        convert(x, "quite cat", false);
        Check.due("result", x.count(7), "kwuit kat".length());
        Check.due("text", x.count(9), 9);
        enter(x, "A=ab,B=cd,Q=k");
        Check.due("long signs", x.count(10), 2);
        Check.due("states", x.count(8), 2);
        enter(x, ":cate,:back");
        Check.due("collide", x.count(2), 3);
        Check.due("come back", x.count(3), 4);
        Check.due("unused", x.count(4), 0);
        SoundSpeller y = with("z=Z,a=A,y=_,:a,:b!");
        Check.due("first and last unused", y.count(4), 2);
        y.removeWord(0);
        Check.due("all unused", y.count(4), 3);
    }
}
