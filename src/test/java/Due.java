/** Counts the answers that are not the ones that are due, and tells them. */
final class Due {
    private static String test = "";
    private static int asked = 0;
    private static int askedAhead = 0;
    private static int wrong = 0;

    private Due() {
    }

    /** From here on till leave(), what is wrong is told with this test's name. */
    static void enter(String name) {
        test = name + ": ";
        askedAhead = asked;
    }

    static void leave() {
        if (asked == askedAhead) {
            wrong("asks nothing");
        }
        test = "";
    }

    static void wrong(String what) {
        wrong++;
        System.out.println(test + what);
    }

    static void is(String what, long got, long want) {
        asked++;
        if (got != want) {
            wrong(what + " answered " + got + ", due is " + want);
        }
    }

    static void is(String what, String got, String want) {
        asked++;
        if (!got.equals(want)) {
            wrong(what + " answered " + got + ", due is " + want);
        }
    }

    static void yes(String what, boolean got) {
        is(what, got ? 1 : 0, 1);
    }

    static void no(String what, boolean got) {
        is(what, got ? 1 : 0, 0);
    }

    /** All that can be seen of a line is as it was (see Play.look). */
    static void same(String what, FarCacheLine x, String before) {
        asked++;
        String now = Play.look(x);
        if (!now.equals(before)) {
            wrong(what + " changed\n" + before + "\nto\n" + now);
        }
    }

    static void noByte(String what, FarCacheLine x, int call, int i) {
        Class<?> thrown = null;
        try {
            x.got(call, i);
        } catch (RuntimeException e) {
            thrown = e.getClass();
        }
        yes(what + " throws", thrown == ArrayIndexOutOfBoundsException.class);
    }

    /** Ends the test: exit code 1 if an answer was wrong, or if none was asked for. */
    static void close() {
        System.out.println(wrong + " of " + asked + " answers are not as due");
        if (wrong != 0 || asked == 0) {
            System.exit(1);
        }
    }
}
