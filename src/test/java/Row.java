/** A call with its arguments: which are taken, and which exception is thrown first if some are beside their ranges. */
final class Row {
    interface Call {
        void on(ChitWright x, int[] a);
    }

    private final String name;
    private final Call call;
    private final Argument[] arguments;
    private Class<?> firstListed = Check.NUMBER;

    Row(String name, Call call, Argument... arguments) {
        this.name = name;
        this.call = call;
        this.arguments = arguments;
    }

    /** For the one call whose throws clause begins with the range. */
    Row rangeIsListedFirst() {
        firstListed = Check.RANGE;
        return this;
    }

    /** The call is taken with good arguments, and with either end of each range. */
    void takesItsRanges(Refusals refusals) {
        taken(refusals, good());
        for (int i = 0; i < arguments.length; i++) {
            if (arguments[i].bothEndsAreTaken) {
                taken(refusals, goodBut(i, arguments[i].lowest));
                taken(refusals, goodBut(i, arguments[i].highest));
            }
        }
    }

    private void taken(Refusals refusals, int[] a) {
        refusals.takes(told(a), x -> call.on(x, a));
    }

    /** Good arguments are refused for the state of things. */
    void isRefused(Refusals refusals) {
        refused(refusals, Check.STATE, good());
    }

    /** An argument beside its range is refused, whatever else would be refused; of two such ones the one that is listed first. */
    void refusesBeside(Refusals refusals) {
        for (int i = 0; i < arguments.length; i++) {
            for (int value : arguments[i].beside()) {
                refused(refusals, arguments[i].thrown, goodBut(i, value));
            }
        }
        for (int i = 0; i < arguments.length; i++) {
            for (int j = i + 1; j < arguments.length; j++) {
                if (arguments[i].thrown != arguments[j].thrown) {
                    bothBeside(refusals, i, j);
                }
            }
        }
    }

    private void bothBeside(Refusals refusals, int i, int j) {
        for (int one : arguments[i].justBeside()) {
            for (int other : arguments[j].justBeside()) {
                int[] a = goodBut(i, one);
                a[j] = other;
                refused(refusals, firstListed, a);
            }
        }
    }

    private void refused(Refusals refusals, Class<?> want, int[] a) {
        refusals.refuses(told(a), want, x -> call.on(x, a));
    }

    private int[] good() {
        int[] a = new int[arguments.length];
        for (int i = 0; i < a.length; i++) {
            a[i] = arguments[i].good;
        }
        return a;
    }

    private int[] goodBut(int argument, int value) {
        int[] a = good();
        a[argument] = value;
        return a;
    }

    private String told(int[] a) {
        StringBuilder text = new StringBuilder(name);
        for (int i = 0; i < a.length; i++) {
            text.append(i == 0 ? "(" : ", ").append(a[i]);
        }
        return text.append(a.length == 0 ? "()" : ")").toString();
    }
}
