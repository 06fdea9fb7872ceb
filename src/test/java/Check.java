/** Compares answers with those that are due, and counts the wrong ones. */
final class Check {
    private static final int MOST_TOLD = 40;
    private static int checks = 0;
    private static int wrong = 0;

    private Check() {
    }

    static void due(String call, long got, long want) {
        checks++;
        if (got != want) {
            wrong++;
            tell(call + " answered " + got + ", due is " + want);
        }
    }

    static void due(String call, String got, String want) {
        checks++;
        if (!got.equals(want)) {
            wrong++;
            tell(call + " answered \"" + got + "\", due is \"" + want + "\"");
        }
    }

    private static void tell(String line) {
        if (wrong <= MOST_TOLD) {
            System.out.println(line);
        }
    }

    static int wrong() {
        return wrong;
    }

    /** Ends the test, with exit code 1 if an answer was wrong. */
    static void end() {
        System.out.println(checks + " answers, " + wrong + " of them wrong");
        if (wrong != 0 || checks == 0) {
            System.exit(1);
        }
    }
}
