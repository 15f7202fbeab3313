/** All that can be found out of an office: what it answers when it is asked, when it is told anew, and to random calls. */
final class Picture {
    private static final int REQUESTS_A_TIME = 10;
    private static final int INVOICES_A_TIME = 25;
    private static final int RANDOM_RUNS = 3;
    private static final int RANDOM_CALLS = 120;

    private Picture() {
    }

    static String of(Scene scene) {
        StringBuilder text = new StringBuilder();
        books(scene.make(), text);
        for (int i = 0; i < 40; i += REQUESTS_A_TIME) {
            requests(scene.make(), i, text);
        }
        for (int i = 0; i < 60; i += INVOICES_A_TIME) {
            invoices(scene.make(), i, text);
        }
        tripsAndEntries(scene.make(), text);
        toldBefore(scene.make(), text);
        for (int seed = 1; seed <= RANDOM_RUNS; seed++) {
            goingOn(scene.make(), seed, text);
        }
        return text.toString();
    }

    private static void books(ChitWright x, StringBuilder text) {
        text.append("day ").append(x.day()).append(" accounts");
        for (int i = 0; i < 9; i++) {
            text.append(' ').append(x.account(i));
        }
        for (int c = 0; c < 6; c++) {
            text.append(" centre ").append(c);
            for (int y = 0; y < 3; y++) {
                for (int w = 0; w < 4; w++) {
                    text.append(' ').append(x.centre(c, y, w));
                }
            }
        }
        for (int i = 0; i < 12; i++) {
            try {
                text.append(" person ").append(x.staff(i, 0)).append(' ').append(x.staff(i, 1));
            } catch (IndexOutOfBoundsException e) {
                return;
            }
        }
    }

    private static void requests(ChitWright x, int from, StringBuilder text) {
        for (int i = from; i < from + REQUESTS_A_TIME; i++) {
            try {
                text.append(" request ").append(x.next(i));
            } catch (IndexOutOfBoundsException e) {
                return;
            }
            for (int w = 0; w < 6; w++) {
                text.append(' ').append(x.requestOf(i, w));
            }
            lines(x, i, text);
        }
    }

    private static void lines(ChitWright x, int request, StringBuilder text) {
        for (int i = 0; i < 4; i++) {
            try {
                text.append(" line");
                for (int w = 0; w < 5; w++) {
                    text.append(' ').append(x.lineOf(request, i, w));
                }
            } catch (IndexOutOfBoundsException e) {
                return;
            }
        }
    }

    private static void invoices(ChitWright x, int from, StringBuilder text) {
        for (int i = from; i < Math.min(60, from + INVOICES_A_TIME); i++) {
            try {
                text.append(" invoice ").append(x.isSampled(0, i));
            } catch (IndexOutOfBoundsException e) {
                return;
            }
            for (int w = 0; w < 8; w++) {
                text.append(' ').append(x.invoiceOf(i, w));
            }
        }
    }

    private static void tripsAndEntries(ChitWright x, StringBuilder text) {
        try {
            for (int i = 0; i < 30; i++) {
                text.append(" trip ").append(x.tripCost(i)).append(x.isSampled(1, i));
            }
        } catch (IndexOutOfBoundsException e) {
            text.append(" no more");
        }
        try {
            for (int i = 0; i < 40; i++) {
                text.append(" entry ").append(x.isTold(i)).append(x.isSampled(2, i));
            }
        } catch (IndexOutOfBoundsException e) {
            text.append(" no more");
        }
    }

    /** What was told before, as the calls that tell it anew answer. */
    private static void toldBefore(ChitWright x, StringBuilder text) {
        text.append(" carried ").append(x.carried(0)).append(" rates ").append(x.rate(1, 1000)).append(' ').append(x.rate(2, 1000));
        for (int i = 0; i < 4; i++) {
            text.append(" place ").append(x.place(i, 0));
        }
        for (int i = 0; i < 6; i++) {
            text.append(" soft ").append(x.soft(i, false));
        }
        text.append(" card ").append(x.payCard());
        try {
            text.append(" controller ").append(x.controller(0));
        } catch (IndexOutOfBoundsException e) {
            text.append(" nobody");
        }
    }

    private static void goingOn(ChitWright x, int seed, StringBuilder text) {
        RandomCalls calls = new RandomCalls(x, seed).lookAround();
        text.append(" going on ").append(seed).append(':');
        for (int i = 0; i < RANDOM_CALLS; i++) {
            text.append(' ').append(calls.call());
        }
    }
}
