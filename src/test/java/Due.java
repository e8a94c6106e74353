/** Compares answers with those that are due, and counts the wrong ones. */
final class Due {
    private static final int MOST_TOLD = 40;

    private static int compared = 0;
    private static int wrong = 0;

    private Due() {
    }

    static void due(String call, long got, long want) {
        compared++;
        if (got == want) {
            return;
        }
        wrong++;
        if (wrong <= MOST_TOLD) {
            System.out.println(call + " answered " + got + ", due is " + want);
        }
    }

    static void holds(String what, boolean so) {
        due(what, so ? 1 : 0, 1);
    }

    /** Ends the test, with exit code 1 if an answer was wrong. */
    static void end() {
        System.out.println(compared + " answers compared, " + wrong + " wrong");
        if (wrong != 0 || compared == 0) {
            System.exit(1);
        }
    }
}
