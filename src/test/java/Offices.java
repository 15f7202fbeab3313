/** Offices to begin a test with. */
final class Offices {
    static final int BOSS = 0;
    static final int CLERK = 1;

    /** In busy(): a DRAFT without a line, one with 4, one whose total is above what is free, and what there is of each kind. */
    static final int EMPTY = 6;
    static final int LONG = 7;
    static final int POOR = 8;
    static final int PERSONS = 4;
    static final int REQUESTS = 9;
    static final int INVOICES = 7;
    static final int TRIPS = 2;
    static final int ENTRIES = 2;

    /** In busy(): invoices beside HELD for pieces, BOOKED and PAID, which have the numbers of their states. */
    static final int STOPPED = 3;
    static final int DEAR = 4;
    static final int DEAR_AND_MANY = 5;
    static final int LET_GO = 6;

    /** In busy(): the boss of all, a boss in the middle, a clerk, and the controller, who is beside them. */
    static final int MIDDLE = 1;
    static final int LOW = 2;
    static final int CONTROLLER = 3;
    static final int HARD_CENTRE = 1;

    private Offices() {
    }

    /** The boss 0, who is the controller, the clerk 1, and six soft centres. */
    static ChitWright soft() {
        ChitWright x = hard();
        for (int i = 0; i < 6; i++) {
            x.soft(i, true);
        }
        return x;
    }

    /** The boss 0, who is the controller, and the clerk 1; the centres are hard and have no budget. */
    static ChitWright hard() {
        ChitWright x = new ChitWright();
        x.person(ChitWright.NONE, 10000000);
        x.person(BOSS, 0);
        return x;
    }

    static int draft(ChitWright x, int centre, boolean isService, int quantity, int price) {
        int request = x.request(BOSS, centre);
        x.line(request, isService, quantity, price);
        return request;
    }

    /** A request of the boss, which nobody has to approve. */
    static int approved(ChitWright x, int centre, boolean isService, int quantity, int price) {
        int request = draft(x, centre, isService, quantity, price);
        x.send(request);
        return request;
    }

    static int ordered(ChitWright x, int centre, boolean isService, int quantity, int price) {
        int request = approved(x, centre, isService, quantity, price);
        x.order(request, 0);
        return request;
    }

    /** An office on day 10 that has a request of each state, with the number of the state, and an invoice of each kind. */
    static ChitWright busy() {
        ChitWright x = withoutInvoices();
        busyInvoices(x);
        x.trip(LOW, 2, 0, 3, 1, 2, 40);
        x.trip(BOSS, 3, 0, 1, 0, 0, 0);
        x.card(LOW, 900);
        x.card(MIDDLE, 1000);
        x.tell(0, 4, 250);
        x.advance(LOW, 5000);
        return x;
    }

    /** The same office ahead of all parts received, invoices, trips, cards and advances. */
    static ChitWright withoutInvoices() {
        ChitWright x = new ChitWright();
        x.person(ChitWright.NONE, 10000000);
        x.person(BOSS, 50000);
        x.person(MIDDLE, 0);
        x.person(ChitWright.NONE, 0);
        x.controller(CONTROLLER);
        for (int i = 0; i < 6; i++) {
            x.soft(i, i != HARD_CENTRE);
            x.budget(i, 0, i == HARD_CENTRE ? 500 : 1000000);
        }
        x.carried(30);
        x.supplier(1, 1, 1, 20, 5, 6);
        x.rate(1, 1500);
        x.taxes(19, 50);
        x.place(0, 3000);
        x.sample(77, 50);
        x.pass(10);
        busyRequests(x);
        return x;
    }

    private static void busyRequests(ChitWright x) {
        for (int i = 0; i < EMPTY; i++) {
            x.request(LOW, 0);
            x.line(i, false, 40, 100);
            x.line(i, true, 5, 30000);
        }
        x.request(BOSS, 2);
        x.request(BOSS, 2);
        for (int i = 0; i < 4; i++) {
            x.line(LONG, i % 2 == 0, 9, 70);
        }
        x.request(BOSS, HARD_CENTRE);
        x.line(POOR, true, 3, 167);
        for (int i = ChitWright.SENT; i <= ChitWright.ENDED; i++) {
            x.send(i);
        }
        x.refuse(ChitWright.REFUSED, MIDDLE);
        approveAll(x, ChitWright.APPROVED);
        approveAll(x, ChitWright.ORDERED);
        approveAll(x, ChitWright.ENDED);
        x.order(ChitWright.ORDERED, 1);
        x.order(ChitWright.ENDED, 1);
        x.end(ChitWright.ENDED);
    }

    private static void approveAll(ChitWright x, int request) {
        x.approve(request, MIDDLE);
        x.approve(request, CONTROLLER);
        x.approve(request, BOSS);
    }

    private static void busyInvoices(ChitWright x) {
        int r = ChitWright.ORDERED;
        x.receive(r, 0, 3);
        x.invoice(r, 0, 12, 60);
        x.invoice(r, 0, 4, 60);
        x.invoice(r, 0, 2, 60);
        x.invoice(r, 0, 1, 60);
        x.run(2000, false);
        x.bounce(STOPPED);
        x.receive(r, 0, 5);
        x.invoice(r, 0, 1, 100);
        x.invoice(r, 0, 2, 100);
        x.invoice(r, 0, 2, 100);
        x.letGo(LET_GO, CONTROLLER);
    }

    /** As many of each kind as there may be: the requests are of the clerk, and 39 alone has been ordered, with 4 lines. */
    static ChitWright full() {
        ChitWright x = soft();
        for (int i = 2; i < 12; i++) {
            x.person(i - 1, 0);
        }
        for (int i = 0; i < 39; i++) {
            x.request(CLERK, i % 6);
        }
        int last = draft(x, 5, true, 99, 1);
        for (int i = 1; i < 4; i++) {
            x.line(last, true, 99, 1);
        }
        x.send(last);
        x.order(last, 5);
        for (int i = 0; i < 60; i++) {
            x.invoice(last, i % 4, 1, 1);
        }
        for (int i = 0; i < 30; i++) {
            x.trip(11, 0, 0, 1, 0, 0, 1);
        }
        for (int i = 0; i < 40; i++) {
            x.card(11, 100);
        }
        return x;
    }
}
