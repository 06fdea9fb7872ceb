/** Long runs of calls that are drawn by a fixed rule, each answer compared with the reference's. */
public final class ReferenceTest {
    private static final int RUNS = 6000;
    /** An object is used for that many calls at most. */
    private static final int CALLS = 512;
    /** A text of words that is typed, converted, taken, converted again and read. */
    private static final int LONGEST_STEP = 75;

    private final SoundSpeller x = new SoundSpeller();
    private final Reference y = new Reference();
    private final int run;
    private long seed;
    private int calls;
    /** How many letters this run draws from: few ones collide more often. */
    private final int letters;

    private ReferenceTest(int run) {
        this.run = run;
        seed = run * 7919L + 17;
        letters = 1 + draw(7);
    }

    public static void main(String[] args) {
        for (int run = 0; run < RUNS && Check.wrong() == 0; run++) {
            new ReferenceTest(run).go();
        }
        Check.end();
    }

    private int draw(int many) {
        seed = seed * 6364136223846793005L + 1442695040888963407L;
        return (int) ((seed >>> 33) % many);
    }

    private boolean chance(int percent) {
        return draw(100) < percent;
    }

    private void same(String call, int got, int want) {
        calls++;
        Check.due("run " + run + ", call " + calls + ": " + call, got, want);
    }

    private void go() {
        // The rest of the calls only ask, so that what each change left behind is looked at from many sides.
        int changing = 100 + draw(CALLS - LONGEST_STEP - 100);
        while (calls < changing) {
            int kind = draw(100);
            if (kind < 14) {
                entries();
            } else if (kind < 22) {
                words();
            } else if (kind < 24) {
                noise();
            } else if (kind < 50) {
                change();
            } else {
                ask();
            }
        }
        while (calls < CALLS) {
            ask();
        }
    }

    // ---- texts

    private void write(String text) {
        if (chance(97)) {
            same("clearText()", x.clearText(), y.clearText());
        }
        for (int i = 0; i < text.length(); i++) {
            same("type(" + (int) text.charAt(i) + ")", x.type(text.charAt(i)), y.type(text.charAt(i)));
        }
    }

    private void entries() {
        StringBuilder text = new StringBuilder();
        int many = 1 + draw(chance(20) ? 16 : 4);
        for (int i = 0; i < many && text.length() < 58; i++) {
            text.append(i == 0 ? "" : ",").append(entry());
        }
        write(spoiled(text));
        same("readEntries()", x.readEntries(), y.readEntries());
    }

    private String entry() {
        int kind = draw(10);
        if (kind < 5) {
            String sides = "^$+-<";
            String side = chance(40) ? "" : String.valueOf(sides.charAt(draw(5)));
            return some(1 + draw(chance(60) ? 2 : 4)) + "=" + (chance(15) ? "_" : capital()) + side;
        }
        if (kind < 9) {
            return ":" + some(1 + draw(chance(80) ? 4 : 12)) + (chance(60) ? "" : chance(50) ? "!" : "'");
        }
        return capital() + "=" + some(1 + draw(2));
    }

    private String capital() {
        return String.valueOf((char) ((chance(90) ? 'A' : 'V') + draw(5)));
    }

    private String some(int many) {
        StringBuilder all = new StringBuilder();
        for (int i = 0; i < many; i++) {
            all.append(letter());
        }
        return all.toString();
    }

    private char letter() {
        return chance(98) ? "abeczui".charAt(draw(letters)) : (char) ('a' + draw(26));
    }

    private String spoiled(StringBuilder text) {
        if (chance(20) && text.length() > 0) {
            String others = "aB=_:!',^$+-< \u0161\u0127z{@";
            char other = others.charAt(draw(others.length()));
            int place = draw(text.length());
            if (chance(40)) {
                text.setCharAt(place, other);
            } else if (chance(40)) {
                text.insert(place, other);
            } else {
                text.setLength(place);
            }
        }
        return text.toString();
    }

    private void words() {
        StringBuilder text = new StringBuilder();
        boolean back = chance(50);
        int many = 1 + draw(chance(15) ? 30 : 4);
        for (int i = 0; i < many && text.length() < 59; i++) {
            text.append(i == 0 ? "" : " ").append(textWord(back));
        }
        write(spoiled(text));
        convert(back);
        if (chance(50)) {
            same("takeResult()", x.takeResult(), y.takeResult());
            convert(chance(70) != back);
        }
        if (chance(30)) {
            same("readEntries()", x.readEntries(), y.readEntries());
        }
    }

    private String textWord(boolean back) {
        int words = y.count(1);
        StringBuilder word = new StringBuilder();
        if (words > 0 && chance(60)) {
            int known = draw(words);
            for (int i = 0; y.at(known, back ? 2 : 0, i) >= 0; i++) {
                word.append((char) y.at(known, back ? 2 : 0, i));
            }
        } else {
            word.append(some(1 + draw(chance(85) ? 3 : 25)));
        }
        return word + (back && chance(15) ? "'" : "");
    }

    private void convert(boolean back) {
        same("convert(" + back + ")", x.convert(back), y.convert(back));
        int first = draw(20);
        for (int i = first; i < first + 3; i++) {
            same("result(" + i + ")", x.result(i), y.result(i));
        }
    }

    private void noise() {
        char character = (char) draw(65536);
        same("type(" + (int) character + ")", x.type(character), y.type(character));
    }

    // ---- changes

    private int near(int many) {
        return chance(92) ? draw(Math.max(many, 1)) : draw(many + 4) - 2;
    }

    private void change() {
        int rules = y.count(0);
        int a = near(rules);
        int b = near(rules);
        int c = near(y.count(1));
        int d = near(3);
        switch (draw(9)) {
            case 0 -> same("removeRule(" + a + ")", x.removeRule(a), y.removeRule(a));
            case 1, 2 -> same("moveRule(" + a + ", " + b + ")", x.moveRule(a, b), y.moveRule(a, b));
            case 3 -> same("removeWord(" + c + ")", x.removeWord(c), y.removeWord(c));
            case 4, 5 -> same("setKind(" + c + ", " + d + ")", x.setKind(c, d), y.setKind(c, d));
            case 6 -> same("markCollisions()", x.markCollisions(), y.markCollisions());
            case 7 -> same("undo()", x.undo(), y.undo());
            default -> {
                if (chance(50)) {
                    same("keep()", x.keep(), y.keep());
                } else {
                    same("restore()", x.restore(), y.restore());
                }
            }
        }
    }

    // ---- questions

    private void ask() {
        int a = near(y.count(0));
        int c = near(y.count(1));
        int what = near(7);
        int index = near(chance(70) ? 13 : 27);
        int place = near(y.count(7));
        char sound = chance(95) ? capital().charAt(0) : (char) draw(256);
        char letter = chance(95) ? letter() : (char) draw(256);
        switch (draw(8)) {
            case 0 -> same("rule(" + a + ", " + what + ")", x.rule(a, what), y.rule(a, what));
            case 1 -> same("letterOf(" + a + ", " + index + ")", x.letterOf(a, index), y.letterOf(a, index));
            case 2 -> same("sign(" + sound + ", " + what + ")", x.sign(sound, what), y.sign(sound, what));
            case 3 -> same("word(" + c + ", " + what + ")", x.word(c, what), y.word(c, what));
            case 4 -> same("at(" + c + ", " + what + ", " + index + ")", x.at(c, what, index), y.at(c, what, index));
            case 5 -> same("result(" + place + ")", x.result(place), y.result(place));
            case 6 -> same("collideWith(" + sound + ", " + letter + ")", x.collideWith(sound, letter), y.collideWith(sound, letter));
            default -> {
                int counted = near(11);
                same("count(" + counted + ")", x.count(counted), y.count(counted));
            }
        }
    }
}
