/** What the tests written by hand have in common: the constants, ways to fill an object, and ways to tell of it. */
abstract class SpellerCase {
    static final int UNKNOWN = SoundSpeller.UNKNOWN;
    static final int BAD = SoundSpeller.BAD_VALUE;
    static final int FULL = SoundSpeller.FULL;
    static final int NOT_POSSIBLE = SoundSpeller.NOT_POSSIBLE;
    static final int NONE = SoundSpeller.NONE;
    static final int LEAST = Integer.MIN_VALUE;
    static final int MOST = Integer.MAX_VALUE;
    /** Far beyond the longest row that is told, so that a wrong answer can't keep a test going. */
    static final int ENDLESS = 1000;

    SpellerCase() {
    }

    static void write(SoundSpeller x, String text) {
        x.clearText();
        for (int i = 0; i < text.length(); i++) {
            x.type(text.charAt(i));
        }
    }

    static int enter(SoundSpeller x, String entries) {
        write(x, entries);
        return x.readEntries();
    }

    static SoundSpeller with(String... texts) {
        SoundSpeller x = new SoundSpeller();
        for (String text : texts) {
            int entries = text.split(",").length;
            Check.due("with " + text, enter(x, text), entries);
        }
        return x;
    }

    static int convert(SoundSpeller x, String text, boolean back) {
        write(x, text);
        return x.convert(back);
    }

    static String resultOf(SoundSpeller x) {
        StringBuilder all = new StringBuilder();
        for (int i = 0, told = x.result(0); i < ENDLESS && told >= 0; told = x.result(++i)) {
            all.append((char) told);
        }
        return all.toString();
    }

    static void dueConverted(SoundSpeller x, String text, boolean back, String want) {
        Check.due("convert " + text, convert(x, text, back), want.length());
        Check.due("result of " + text, resultOf(x), want);
    }

    static String row(SoundSpeller x, int word, int what) {
        StringBuilder all = new StringBuilder();
        for (int i = 0, told = x.at(word, what, 0); i < ENDLESS && told >= 0; told = x.at(word, what, ++i)) {
            all.append((char) told);
        }
        return all.toString();
    }

    static String rulesAt(SoundSpeller x, int word) {
        StringBuilder all = new StringBuilder();
        for (int i = 0; i < x.word(word, 1); i++) {
            int rule = x.at(word, 3, i);
            all.append(rule == NONE ? "." : Integer.toString(rule));
        }
        return all.toString();
    }

    static String letters(SoundSpeller x, int rule) {
        StringBuilder all = new StringBuilder();
        for (int i = 0, told = x.letterOf(rule, 0); i < ENDLESS && told >= 0; told = x.letterOf(rule, ++i)) {
            all.append((char) told);
        }
        return all.toString();
    }

    /** All of a state that is told. */
    static String state(SoundSpeller x) {
        StringBuilder all = new StringBuilder();
        for (int i = 0; i < x.count(0); i++) {
            all.append(letters(x, i)).append('=').append(x.rule(i, 1)).append('/').append(x.rule(i, 2)).append(' ');
        }
        for (int i = 0; i < x.count(1); i++) {
            all.append(':').append(row(x, i, 0)).append('/').append(x.word(i, 0)).append('/').append(row(x, i, 2)).append(' ');
        }
        for (char c = 'A'; c <= 'Z'; c++) {
            all.append((char) x.sign(c, 0));
            if (x.sign(c, 1) != NONE) {
                all.append((char) x.sign(c, 1));
            }
            all.append('.');
        }
        return all.toString();
    }

    /** A converter with 30 rules of two letters, "aa" up to "bd", and one act less than the history holds. */
    static SoundSpeller withAllRules() {
        return with("aa=A,ab=A,ac=A,ad=A,ae=A,af=A,ag=A,ah=A,ai=A,aj=A",
                "ak=A,al=A,am=A,an=A,ao=A,ap=A,aq=A,ar=A,as=A,at=A",
                "au=A,av=A,aw=A,ax=A,ay=A,az=A,ba=A,bb=A,bc=A,bd=A");
    }

    /** A converter with 20 words of one letter, "a" up to "t". */
    static SoundSpeller withAllWords() {
        return with(":a,:b,:c,:d,:e,:f,:g,:h,:i,:j", ":k,:l,:m,:n,:o,:p,:q,:r,:s,:t");
    }

    /** The letters of all words, with their kinds. */
    static String words(SoundSpeller x) {
        StringBuilder all = new StringBuilder();
        for (int i = 0; i < x.count(1); i++) {
            all.append(i == 0 ? "" : " ").append(row(x, i, 0)).append(x.word(i, 0));
        }
        return all.toString();
    }

    /** The letters of all rules, with their sounds and sides. */
    static String rules(SoundSpeller x) {
        StringBuilder all = new StringBuilder();
        int many = x.count(0);
        for (int i = 0; i < many; i++) {
            int sound = x.rule(i, 1);
            all.append(i == 0 ? "" : " ").append(letters(x, i)).append(sound == 0 ? '_' : (char) sound).append(x.rule(i, 2));
        }
        return all.toString();
    }
}
