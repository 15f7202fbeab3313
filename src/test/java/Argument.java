/** What an argument of a call may be, and what is thrown if it is beside that. */
final class Argument {
    final int good;
    final int lowest;
    final int highest;
    final Class<?> thrown;
    final boolean bothEndsAreTaken;

    private Argument(int good, int lowest, int highest, Class<?> thrown, boolean bothEndsAreTaken) {
        this.good = good;
        this.lowest = lowest;
        this.highest = highest;
        this.thrown = thrown;
        this.bothEndsAreTaken = bothEndsAreTaken;
    }

    /** A number of something; whichever is taken by the call. */
    static Argument number(int good, int lowest, int highest) {
        return new Argument(good, lowest, highest, Check.NUMBER, true);
    }

    /** A number of something, of which the call takes only some. */
    static Argument thing(int good, int count) {
        return new Argument(good, 0, count - 1, Check.NUMBER, false);
    }

    /** A value with a range; both ends of it are taken by the call. */
    static Argument value(int good, int lowest, int highest) {
        return new Argument(good, lowest, highest, Check.RANGE, true);
    }

    /** A value with a range, whose ends the call may refuse for something else. */
    static Argument within(int good, int lowest, int highest) {
        return new Argument(good, lowest, highest, Check.RANGE, false);
    }

    /** A boolean, or any number. */
    static Argument free(int good, int lowest, int highest) {
        return new Argument(good, lowest, highest, null, true);
    }

    /** The first ones beside the range, and the farthest. */
    int[] beside() {
        return thrown == null ? new int[0] : new int[] {lowest - 1, highest + 1, Integer.MIN_VALUE, Integer.MAX_VALUE};
    }

    /** The first ones beside the range. */
    int[] justBeside() {
        return thrown == null ? new int[0] : new int[] {lowest - 1, highest + 1};
    }
}
