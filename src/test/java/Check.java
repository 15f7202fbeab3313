/** Counts answers that are not due, and calls that do not throw what they ought to. */
final class Check {
    interface Act {
        void run();
    }

    static final Class<?> NUMBER = IndexOutOfBoundsException.class;
    static final Class<?> RANGE = IllegalArgumentException.class;
    static final Class<?> STATE = IllegalStateException.class;

    private static int checks = 0;
    private static int wrong = 0;

    private Check() {
    }

    static void due(String what, long want, long got) {
        checks++;
        if (want != got) {
            wrong++;
            System.out.println("  " + what + " answered " + got + ", due is " + want);
        }
    }

    static void due(String what, boolean want, boolean got) {
        due(what, want ? 1 : 0, got ? 1 : 0);
    }

    /** The class itself throws exactly that, and nothing that can be asked is another one behind it. */
    static void refuses(String what, Class<?> want, ChitWright x, Act call) {
        checks++;
        String before = Offices.picture(x);
        Class<?> got = null;
        try {
            call.run();
        } catch (RuntimeException e) {
            got = isThrownByHand(e) ? e.getClass() : null;
        }
        if (got != want) {
            wrong++;
            System.out.println("  " + what + " threw " + got + ", due is " + want);
        }
        if (!before.equals(Offices.picture(x))) {
            wrong++;
            System.out.println("  " + what + " changed something");
        }
    }

    static boolean isThrownByHand(RuntimeException e) {
        StackTraceElement[] trace = e.getStackTrace();
        return trace.length > 0 && trace[0].getClassName().startsWith("ChitWright");
    }

    static void close(String test) {
        System.out.println("  " + test + ": " + checks + " checks, " + wrong + " wrong");
        if (wrong > 0 || checks == 0) {
            System.exit(1);
        }
    }
}
