/** Counts and prints what is not as it should be. */
final class Check {
    private static int wrong = 0;

    private Check() {
    }

    static void is(String what, Object got, Object want) {
        if (!want.equals(got)) {
            wrong++;
            System.out.println(what + " answered " + got + ", due is " + want);
        }
    }

    static void throwsBounds(String what, Runnable call) {
        is(what, thrownBy(call), "IndexOutOfBoundsException");
    }

    static void throwsArgument(String what, Runnable call) {
        is(what, thrownBy(call), "IllegalArgumentException");
    }

    static void throwsState(String what, Runnable call) {
        is(what, thrownBy(call), "IllegalStateException");
    }

    /** The name of what a call throws, or the word nothing. */
    static String thrownBy(Runnable call) {
        try {
            call.run();
            return "nothing";
        } catch (RuntimeException e) {
            return e.getClass().getSimpleName();
        }
    }

    static RepeatWays scoreOf(int bars) {
        RepeatWays x = new RepeatWays();
        for (int k = 0; k < bars; k++) {
            x.bar(100 + k);
        }
        return x;
    }

    /** The bars that are played, as a text: at most some 100 in a test, for an object has 512 calls. */
    static String row(RepeatWays x) {
        return row(x, 0);
    }

    static String row(RepeatWays x, int what) {
        StringBuilder text = new StringBuilder();
        for (int i = 0; i < x.told(4); i++) {
            text.append(i == 0 ? "" : " ").append(x.played(i, what));
        }
        return text.toString();
    }

    static void end() {
        System.out.println(wrong == 0 ? "all as due" : wrong + " not as due");
        if (wrong != 0) {
            System.exit(1);
        }
    }
}
