/** Counts the answers that are not the ones that are due, and tells them. */
final class Due {
    private static int asked = 0;
    private static int wrong = 0;

    private Due() {
    }

    static void is(String what, long got, long want) {
        asked++;
        if (got != want) {
            wrong++;
            System.out.println(what + " answered " + got + ", due is " + want);
        }
    }

    static void yes(String what, boolean got) {
        is(what, got ? 1 : 0, 1);
    }

    static void no(String what, boolean got) {
        is(what, got ? 1 : 0, 0);
    }

    static void noByte(String what, FarCacheLine x, int call, int i) {
        boolean thrown = false;
        try {
            x.got(call, i);
        } catch (ArrayIndexOutOfBoundsException e) {
            thrown = true;
        }
        yes(what + " throws", thrown);
    }

    /** Ends the test: exit code 1 if an answer was wrong, or if none was asked for. */
    static void close() {
        System.out.println(wrong + " of " + asked + " answers are not as due");
        if (wrong != 0 || asked == 0) {
            System.exit(1);
        }
    }
}
