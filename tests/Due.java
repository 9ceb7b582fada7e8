/** Compares answers with those that are due, and counts the wrong ones. */
final class Due {
    private static int wrong = 0;

    private Due() {
    }

    static void is(String what, long got, long due) {
        if (got != due) tell(what + ": answered " + got + ", due is " + due);
    }

    static void isTrue(String what, boolean holds) {
        is(what, holds ? 1 : 0, 1);
    }

    static void same(String what, String got, String due) {
        if (!got.equals(due)) tell(what + ": looks like\n  " + got + "\nand not like\n  " + due);
    }

    private static void tell(String text) {
        wrong++;
        if (wrong <= 40) System.out.println(text);
    }

    /** Ends a test's run, with exit code 1 if an answer was wrong. */
    static void end() {
        System.out.println(wrong == 0 ? "all answers are as due" : wrong + " answers are not as due");
        if (wrong != 0) System.exit(1);
    }
}
