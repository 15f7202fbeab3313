/** Counts answers that are not due, and calls that do not throw what they ought to. */
final class Check {
    interface Act {
        void run();
    }

    static final Class<?> NUMBER = IndexOutOfBoundsException.class;
    static final Class<?> RANGE = IllegalArgumentException.class;
    static final Class<?> STATE = IllegalStateException.class;

    private static int checks = 0;
    private static int wrong = 0;

    private Check() {
    }

    static void due(String what, long want, long got) {
        checks++;
        if (want != got) {
            wrong++;
            System.out.println("  " + what + " answered " + got + ", due is " + want);
        }
    }

    static void due(String what, boolean want, boolean got) {
        due(what, want ? 1 : 0, got ? 1 : 0);
    }

    static void due(String what, String want, String got) {
        checks++;
        if (!want.equals(got)) {
            wrong++;
            int at = 0;
            while (at < want.length() && at < got.length() && want.charAt(at) == got.charAt(at)) {
                at++;
            }
            System.out.println("  " + what + " told \"" + near(got, at) + "\", due is \"" + near(want, at) + "\"");
        }
    }

    private static String near(String text, int at) {
        return text.substring(Math.max(0, at - 40), Math.min(text.length(), at + 20));
    }

    /** The class itself throws exactly that. That nothing is changed by it, Refusals asks. */
    static void refuses(String what, Class<?> want, Act call) {
        checks++;
        Class<?> got = thrownBy(call);
        if (got != want) {
            wrong++;
            System.out.println("  " + what + " threw " + got + ", due is " + want);
        }
    }

    /** The class of what a call throws by a throw of its own, null if nothing, RuntimeException if the machine threw. */
    static Class<?> thrownBy(Act call) {
        try {
            call.run();
            return null;
        } catch (RuntimeException e) {
            return isThrownByHand(e) ? e.getClass() : RuntimeException.class;
        }
    }

    private static boolean isThrownByHand(RuntimeException e) {
        StackTraceElement[] trace = e.getStackTrace();
        boolean isOfTheClass = trace.length > 0 && trace[0].getClassName().startsWith("ChitWright");
        return isOfTheClass && (e.getClass() == NUMBER || e.getClass() == RANGE || e.getClass() == STATE);
    }

    static void close(String test) {
        System.out.println("  " + test + ": " + checks + " checks, " + wrong + " wrong");
        if (wrong > 0 || checks == 0) {
            System.exit(1);
        }
    }
}
