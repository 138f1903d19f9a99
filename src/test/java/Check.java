/** Counts the answers that are due and those that are not. */
final class Check {
    private static final int TOLD_MOST = 40;
    private static int right = 0;
    private static int wrong = 0;

    private Check() {
    }

    static void eq(String what, long got, long due) {
        if (got == due) {
            right++;
            return;
        }
        wrong++;
        if (wrong <= TOLD_MOST) {
            System.out.println(what + " answered " + got + ", due is " + due);
        }
    }

    static void yes(String what, boolean got) {
        eq(what, got ? 1 : 0, 1);
    }

    static void no(String what, boolean got) {
        eq(what, got ? 1 : 0, 0);
    }

    /** Ends the test's program, with 1 if an answer was not the one that is due. */
    static void finish() {
        System.out.println(right + " answers as due, " + wrong + " not");
        System.exit(wrong == 0 && right > 0 ? 0 : 1);
    }
}
