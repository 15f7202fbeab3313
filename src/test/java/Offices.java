/** Offices to begin a test with, and a picture of all that can be asked of one. */
final class Offices {
    static final int BOSS = 0;
    static final int CLERK = 1;

    private Offices() {
    }

    /** The boss 0, who is the controller, the clerk 1, and six soft centres. */
    static ChitWright soft() {
        ChitWright x = hard();
        for (int i = 0; i < 6; i++) {
            x.soft(i, true);
        }
        return x;
    }

    /** The boss 0, who is the controller, and the clerk 1; the centres are hard and have no budget. */
    static ChitWright hard() {
        ChitWright x = new ChitWright();
        x.person(ChitWright.NONE, 10000000);
        x.person(BOSS, 0);
        return x;
    }

    static int draft(ChitWright x, int centre, boolean isService, int quantity, int price) {
        int request = x.request(BOSS, centre);
        x.line(request, isService, quantity, price);
        return request;
    }

    /** A request of the boss, which nobody has to approve. */
    static int approved(ChitWright x, int centre, boolean isService, int quantity, int price) {
        int request = draft(x, centre, isService, quantity, price);
        x.send(request);
        return request;
    }

    static int ordered(ChitWright x, int centre, boolean isService, int quantity, int price) {
        int request = approved(x, centre, isService, quantity, price);
        x.order(request, 0);
        return request;
    }

    static String picture(ChitWright x) {
        StringBuilder text = new StringBuilder();
        text.append(x.day());
        for (int i = 0; i < 9; i++) {
            text.append(' ').append(x.account(i));
        }
        for (int c = 0; c < 6; c++) {
            for (int y = 0; y < 3; y++) {
                for (int w = 0; w < 4; w++) {
                    text.append(' ').append(x.centre(c, y, w));
                }
            }
        }
        persons(x, text);
        requests(x, text);
        invoices(x, text);
        trips(x, text);
        entries(x, text);
        return text.toString();
    }

    private static void persons(ChitWright x, StringBuilder text) {
        for (int i = 0; i < 13; i++) {
            try {
                text.append(" p").append(x.staff(i, 0)).append(' ').append(x.staff(i, 1));
            } catch (IndexOutOfBoundsException e) {
                return;
            }
        }
    }

    private static void requests(ChitWright x, StringBuilder text) {
        for (int i = 0; i < 41; i++) {
            try {
                text.append(" r").append(x.next(i));
            } catch (IndexOutOfBoundsException e) {
                return;
            }
            for (int w = 0; w < 6; w++) {
                text.append(' ').append(x.requestOf(i, w));
            }
            lines(x, i, text);
        }
    }

    private static void lines(ChitWright x, int request, StringBuilder text) {
        for (int i = 0; i < 5; i++) {
            try {
                for (int w = 0; w < 5; w++) {
                    text.append(" l").append(x.lineOf(request, i, w));
                }
            } catch (IndexOutOfBoundsException e) {
                return;
            }
        }
    }

    private static void invoices(ChitWright x, StringBuilder text) {
        for (int i = 0; i < 61; i++) {
            try {
                text.append(" i").append(x.isSampled(0, i));
            } catch (IndexOutOfBoundsException e) {
                return;
            }
            for (int w = 0; w < 8; w++) {
                text.append(' ').append(x.invoiceOf(i, w));
            }
        }
    }

    private static void trips(ChitWright x, StringBuilder text) {
        for (int i = 0; i < 31; i++) {
            try {
                text.append(" t").append(x.tripCost(i)).append(x.isSampled(1, i));
            } catch (IndexOutOfBoundsException e) {
                return;
            }
        }
    }

    private static void entries(ChitWright x, StringBuilder text) {
        for (int i = 0; i < 41; i++) {
            try {
                text.append(" e").append(x.isTold(i)).append(x.isSampled(2, i));
            } catch (IndexOutOfBoundsException e) {
                return;
            }
        }
    }
}
