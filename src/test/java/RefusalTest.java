/**
 * "A call that returns an error or NONE changes nothing.": each call that can be refused is made on one
 * of two converters with the same past; whatever is told of both afterwards must be the same. And each
 * call of those that only tell something changes nothing either.
 */
public final class RefusalTest extends SpellerCase {
    private static int compared = 0;

    /** A past of a converter. */
    private interface Past {
        void on(SoundSpeller x);
    }

    private interface Call {
        int on(SoundSpeller x);
    }

    /** Something that can be told of a converter, in so few calls that all of them stay below 512. */
    private interface View {
        String of(SoundSpeller x);
    }

    private static final View[] VIEWS = {
        RefusalTest::counts,
        SpellerCase::rules,
        SpellerCase::words,
        RefusalTest::spellings,
        RefusalTest::usedRules,
        RefusalTest::signs,
        RefusalTest::beginningOfResult,
        RefusalTest::endOfResult,
        x -> x.convert(false) + ":" + beginningOfResult(x),
        x -> x.convert(true) + ":" + beginningOfResult(x),
        x -> x.readEntries() + ":" + rules(x) + x.count(1) + x.count(10),
        x -> x.type('a') + ":" + x.convert(false) + beginningOfResult(x),
        x -> x.takeResult() + ":" + x.convert(true) + beginningOfResult(x),
        x -> x.clearText() + ":" + x.count(9),
        x -> x.undo() + ":" + rules(x),
        x -> x.undo() + ":" + words(x) + x.count(10),
        x -> x.undo() + ":" + x.undo() + rules(x) + x.count(1),
        x -> x.undo() + ":" + x.undo() + x.undo() + rules(x) + x.count(1),
        x -> x.undo() + ":" + x.undo() + x.undo() + x.undo() + rules(x) + x.count(1),
        x -> x.restore() + ":" + rules(x),
        x -> x.restore() + ":" + words(x) + x.count(10) + x.count(8),
    };

    private RefusalTest() {
    }

    public static void main(String[] args) {
        onANewOne();
        onAnOrdinaryOne();
        onAFullOne();
        onAnUndoneOne();
        ofBadTexts();
        ofTellingCalls();
        Check.due("comparisons", compared > 3000 ? 1 : 0, 1);
        Check.end();
    }

    // ---- what is told

    private static String counts(SoundSpeller x) {
        StringBuilder all = new StringBuilder();
        for (int what = 0; what <= 10; what++) {
            all.append(x.count(what)).append(' ');
        }
        return all.toString();
    }

    private static String spellings(SoundSpeller x) {
        StringBuilder all = new StringBuilder();
        for (int word = 0; word < x.count(1); word++) {
            all.append(row(x, word, 2)).append(x.word(word, 4)).append(' ');
        }
        return all.toString();
    }

    private static String usedRules(SoundSpeller x) {
        StringBuilder all = new StringBuilder();
        for (int word = 0; word < x.count(1); word++) {
            all.append(rulesAt(x, word)).append(x.word(word, 6)).append(' ');
        }
        for (int rule = 0; rule < x.count(0); rule++) {
            all.append(x.rule(rule, 3)).append(' ');
        }
        return all.toString();
    }

    private static String signs(SoundSpeller x) {
        StringBuilder all = new StringBuilder();
        for (char c = 'A'; c <= 'Z'; c++) {
            all.append(x.sign(c, 0)).append('/').append(x.sign(c, 1)).append(' ');
        }
        return all.toString();
    }

    private static String beginningOfResult(SoundSpeller x) {
        StringBuilder all = new StringBuilder();
        for (int i = 0; i < 150; i++) {
            all.append(x.result(i)).append(' ');
        }
        return all.toString();
    }

    private static String endOfResult(SoundSpeller x) {
        StringBuilder all = new StringBuilder();
        for (int i = 300; i < 400; i++) {
            all.append(x.result(i)).append(' ');
        }
        return all.toString();
    }

    // ---- comparing

    private static SoundSpeller made(Past past) {
        SoundSpeller x = new SoundSpeller();
        past.on(x);
        return x;
    }

    /** The call is made twice, as what it left behind may show only then. */
    private static void refused(String name, Past past, Call call, int due) {
        for (int i = 0; i < VIEWS.length; i++) {
            SoundSpeller x = made(past);
            Check.due(name, call.on(x), due);
            call.on(x);
            Check.due(name + " changes nothing of view " + i, VIEWS[i].of(x), VIEWS[i].of(made(past)));
            compared++;
        }
    }

    // ---- a new one: everything is empty

    private static void onANewOne() {
        Past past = x -> { };
        refused("new readEntries", past, x -> x.readEntries(), -100);
        refused("new removeRule", past, x -> x.removeRule(0), UNKNOWN);
        refused("new moveRule", past, x -> x.moveRule(0, 0), UNKNOWN);
        refused("new removeWord", past, x -> x.removeWord(0), UNKNOWN);
        refused("new setKind", past, x -> x.setKind(0, 0), UNKNOWN);
        refused("new markCollisions", past, x -> x.markCollisions(), NONE);
        refused("new convert", past, x -> x.convert(false), -100);
        refused("new convert back", past, x -> x.convert(true), -100);
        refused("new undo", past, x -> x.undo(), NONE);
        refused("new restore", past, x -> x.restore(), NONE);
        refused("new rule", past, x -> x.rule(0, 0), UNKNOWN);
        refused("new letterOf", past, x -> x.letterOf(0, 0), UNKNOWN);
        refused("new sign", past, x -> x.sign('A', 1), NONE);
        refused("new word", past, x -> x.word(0, 0), UNKNOWN);
        refused("new at", past, x -> x.at(0, 0, 0), UNKNOWN);
        refused("new result", past, x -> x.result(0), NONE);
    }

    // ---- an ordinary one

    private static void ordinary(SoundSpeller x) {
        enter(x, "c=K,e=_$,K=kk,:cat,:kat!");
        x.keep();
        enter(x, "b=B^,b=C<,K=k,:bab',:cute");
        x.setKind(3, 2);
        convert(x, "cat bab dog", false);
        write(x, "cute kat");
    }

    private static void onAnOrdinaryOne() {
        Past past = RefusalTest::ordinary;
        for (int rule : new int[] {LEAST, -1, 4, MOST}) {
            refused("removeRule " + rule, past, x -> x.removeRule(rule), UNKNOWN);
            refused("moveRule " + rule, past, x -> x.moveRule(rule, 0), UNKNOWN);
            refused("moveRule to " + rule, past, x -> x.moveRule(0, rule), BAD);
            refused("moveRule both " + rule, past, x -> x.moveRule(rule, rule), UNKNOWN);
            refused("removeWord " + rule, past, x -> x.removeWord(rule), UNKNOWN);
            refused("setKind " + rule, past, x -> x.setKind(rule, 1), UNKNOWN);
        }
        for (int rule = 0; rule < 4; rule++) {
            int same = rule;
            refused("moveRule to itself " + rule, past, x -> x.moveRule(same, same), NONE);
        }
        int[] kinds = {0, 1, 2, 2};
        for (int word = 0; word < 4; word++) {
            int same = word;
            refused("setKind again " + word, past, x -> x.setKind(same, kinds[same]), NONE);
            refused("setKind -1 of " + word, past, x -> x.setKind(same, -1), BAD);
            refused("setKind 3 of " + word, past, x -> x.setKind(same, 3), BAD);
        }
        refused("readEntries of words", past, x -> x.readEntries(), -104);
        refused("markCollisions", past, x -> x.markCollisions(), NONE);
        refused("sign of none", past, x -> x.sign('a', 0), UNKNOWN);
        refused("sign 2", past, x -> x.sign('A', 2), BAD);
        refused("result -1", past, x -> x.result(-1), BAD);
        refused("result 12", past, x -> x.result(12), NONE);
        refused("collideWith of none", past, x -> x.collideWith('[', 'a'), UNKNOWN);
        refused("collideWith no letter", past, x -> x.collideWith('K', 'A'), BAD);
        refused("count 11", past, x -> x.count(11), BAD);
    }

    // ---- a full one: 30 rules, 20 words, a text of 60, a result beyond 60, 4 states

    private static void full(SoundSpeller x) {
        enter(x, ":a,:b,:c,:d,:e,:f,:g,:h,:i,:j,:k,:l,:m,:n,:o,:p,:q,:r,:s");
        enter(x, ":bbbbbbbbbbbb,Z=zz");
        x.keep();
        enter(x, "aa=A,ab=A,ac=A,ad=A,ae=A,af=A,ag=A,ah=A,ai=A,aj=A,ak=A,al=A");
        enter(x, "am=A,an=A,ao=A,ap=A,aq=A,ar=A,as=A,at=A,au=A,av=A,aw=A,ax=A");
        enter(x, "b=Z,c=Z,ba=A,bb=_,bc=A,bd=A");
        write(x, "a a a a a a a a a a a a a a a a a a a b c b c b c b c b c bb");
        x.convert(false);
    }

    private static void onAFullOne() {
        Past past = RefusalTest::full;
        SoundSpeller y = made(past);
        Check.due("full rules, words", y.count(0) * 100 + y.count(1), 3020);
        Check.due("full result, states, text", y.count(7) * 1000 + y.count(8) * 100 + y.count(9), 70460);
        refused("full type", past, x -> x.type('a'), FULL);
        refused("full takeResult", past, x -> x.takeResult(), FULL);
        refused("full removeRule", past, x -> x.removeRule(30), UNKNOWN);
        refused("full moveRule", past, x -> x.moveRule(30, 0), UNKNOWN);
        refused("full moveRule to", past, x -> x.moveRule(29, 30), BAD);
        refused("full moveRule to itself", past, x -> x.moveRule(29, 29), NONE);
        refused("full removeWord", past, x -> x.removeWord(20), UNKNOWN);
        refused("full setKind", past, x -> x.setKind(20, 1), UNKNOWN);
        refused("full setKind again", past, x -> x.setKind(19, 0), NONE);
        refused("full readEntries", past, x -> x.readEntries(), -101);
        String[] tooMany = {"be=B", ":u", "A=xx,be=B", ":u,A=xx", "be=B,:u", "A=b,b=A^,:t"};
        for (String entries : tooMany) {
            refused("full readEntries " + entries, then(past, entries), x -> x.readEntries(), FULL);
        }
        String[] there = {"aa=B", ":a", "A=xx,aa=B", "A=xx,:a!", "be=B,:a'", "A=b,A=cc,:s,:t"};
        for (String entries : there) {
            refused("full readEntries " + entries, then(past, entries), x -> x.readEntries(), NOT_POSSIBLE);
        }
    }

    private static Past then(Past past, String text) {
        return x -> {
            past.on(x);
            write(x, text);
        };
    }

    // ---- one whose history is empty again, with a snapshot

    private static void onAnUndoneOne() {
        Past past = x -> {
            ordinary(x);
            x.undo();
            x.undo();
            x.undo();
        };
        refused("undone undo", past, x -> x.undo(), NONE);
        refused("undone removeRule", past, x -> x.removeRule(0), UNKNOWN);
        refused("undone removeWord", past, x -> x.removeWord(0), UNKNOWN);
        refused("undone markCollisions", past, x -> x.markCollisions(), NONE);
        refused("undone readEntries", past, x -> x.readEntries(), -104);
    }

    // ---- texts that are refused

    private static void ofBadTexts() {
        Past past = RefusalTest::ordinary;
        String[] there = {"", "cat ", "cat  kat", "cat,", "a'", "abcdefghijklm", "cat kat cute bab d.", "Cat"};
        int[] faults = {0, 4, 4, 3, 1, 12, 18, 0};
        for (int i = 0; i < there.length; i++) {
            int due = -100 - faults[i];
            refused("convert '" + there[i] + "'", then(past, there[i]), x -> x.convert(false), due);
        }
        String[] back = {"", "kat ", "kat  kat", "kat'' a", "'", "abcdefghijklmnopqrstuvwxy", "kat bab' kut' d.", "K"};
        faults = new int[] {0, 4, 4, 4, 0, 24, 15, 0};
        for (int i = 0; i < back.length; i++) {
            int due = -100 - faults[i];
            refused("convert back '" + back[i] + "'", then(past, back[i]), x -> x.convert(true), due);
        }
        String[] entries = {"", "d=D,", "d=D,:new,K=ccc", ":new,:", "K=x,d=D^^", "d=D,K=x,:cat", ":new,:new", "d=D,d=D", "K=x,b=D^"};
        int[] dues = {-100, -104, -113, -106, -108, NOT_POSSIBLE, NOT_POSSIBLE, NOT_POSSIBLE, NOT_POSSIBLE};
        for (int i = 0; i < entries.length; i++) {
            refused("readEntries '" + entries[i] + "'", then(past, entries[i]), x -> x.readEntries(), dues[i]);
        }
    }

    // ---- calls that tell something

    private static void ofTellingCalls() {
        Past past = RefusalTest::ordinary;
        refused("collideWith", past, x -> x.collideWith('K', 'b'), 0);
        refused("collideWith a collision", past, x -> x.collideWith('B', 'k'), 2);
        for (int what = 0; what <= 10; what++) {
            int asked = what;
            refused("count " + what, past, x -> x.count(asked) >= 0 ? 1 : 0, 1);
        }
        for (int what = 0; what <= 6; what++) {
            int asked = what;
            refused("word " + what, past, x -> x.word(3, asked) >= 0 ? 1 : 0, 1);
        }
        for (int what = 0; what <= 3; what++) {
            int asked = what;
            refused("rule " + what, past, x -> x.rule(3, asked) >= 0 ? 1 : 0, 1);
            refused("at " + what, past, x -> x.at(2, asked, 0) >= 0 ? 1 : 0, 1);
        }
        refused("letterOf", past, x -> x.letterOf(0, 0), 'c');
        refused("sign", past, x -> x.sign('K', 0), 'k');
        refused("result", past, x -> x.result(0), 'k');
    }
}
