/**
 * Each reason for an IllegalStateException, and a neighbour that is not refused; an argument beside its range is refused for that
 * first, and nothing is changed by any of them.
 */
final class RefusedTest {
    private static final int DRAFT = ChitWright.DRAFT;
    private static final int SENT = ChitWright.SENT;
    private static final int APPROVED = ChitWright.APPROVED;
    private static final int REFUSED = ChitWright.REFUSED;
    private static final int ORDERED = ChitWright.ORDERED;
    private static final int ENDED = ChitWright.ENDED;

    private static final Refusals BUSY = new Refusals(Offices::busy);
    private static final Refusals FULL = new Refusals(Offices::full);

    public static void main(String[] args) {
        person();
        transfer();
        pass();
        request();
        line();
        send();
        approve();
        refuse();
        edit();
        order();
        receive();
        change();
        changeOfBudgets();
        end();
        invoice();
        letGo();
        bounce();
        goOn();
        trip();
        card();
        tell();
        Check.close("RefusedTest");
    }

    private static void refused(Refusals refusals, Row... rows) {
        for (Row row : rows) {
            row.isRefused(refusals);
            row.refusesBeside(refusals);
        }
    }

    private static Argument thing(int good, int count) {
        return Argument.thing(good, count);
    }

    private static Argument request(int good) {
        return thing(good, Offices.REQUESTS);
    }

    private static Argument person(int good) {
        return thing(good, Offices.PERSONS);
    }

    private static Argument invoice(int good) {
        return thing(good, Offices.INVOICES);
    }

    /** "if there are 12" */
    private static void person() {
        refused(FULL,
            new Row("person", (x, a) -> x.person(a[0], a[1]), Argument.number(ChitWright.NONE, ChitWright.NONE, 11), Argument.value(5, 0, 10000000)),
            new Row("person", (x, a) -> x.person(a[0], a[1]), Argument.number(11, ChitWright.NONE, 11), Argument.value(0, 0, 10000000)));
    }

    /** "if it is more than is free in from", in a hard centre or a soft one. */
    private static void transfer() {
        Refusals soft = new Refusals(() -> withFree(100, true));
        Refusals hard = new Refusals(() -> withFree(100, false));
        for (Refusals some : new Refusals[] {soft, hard}) {
            refused(some, new Row("transfer", (x, a) -> x.transfer(a[0], a[1], a[2], a[3]),
                thing(4, 6), thing(2, 6), thing(0, 3), Argument.value(101, 1, 100000000)));
            some.state("of another year", x -> x.transfer(4, 2, 1, 1));
            some.range("none, from and to the same", x -> x.transfer(4, 4, 0, 100000000));
            some.takes("all that is free", x -> x.transfer(4, 2, 0, 100));
        }
        Refusals none = new Refusals(() -> withFree(0, true));
        none.state("1 of 0", x -> x.transfer(4, 2, 0, 1));
        Refusals below = new Refusals(() -> withFree(-1, true));
        below.state("1 of less than 0", x -> x.transfer(4, 2, 0, 1));
    }

    /** The centre 4 with so much free in the year 0: 300 are committed, and 60 spent. */
    private static ChitWright withFree(int free, boolean isSoft) {
        ChitWright x = Offices.soft();
        Offices.approved(x, 4, true, 3, 100);
        x.trip(Offices.CLERK, 4, 0, 1, 0, 0, 2);
        x.budget(4, 0, 360 + free);
        x.soft(4, isSoft);
        return x;
    }

    /** "if the day would be above 1079" */
    private static void pass() {
        Refusals late = new Refusals(() -> onDay(1078));
        refused(late, new Row("pass", (x, a) -> x.pass(a[0]), Argument.value(2, 1, 360)));
        late.state("far above", x -> x.pass(360));
        late.takes("up to it", x -> x.pass(1));
        Refusals last = new Refusals(() -> onDay(1079));
        last.state("one day more", x -> x.pass(1));
        Refusals early = new Refusals(() -> onDay(720));
        early.state("1080", x -> x.pass(360));
        early.takes("1079", x -> x.pass(359));
    }

    private static ChitWright onDay(int day) {
        ChitWright x = Offices.busy();
        for (int left = day - x.day(); left > 0; left = day - x.day()) {
            x.pass(Math.min(left, 360));
        }
        return x;
    }

    /** "if there are 40" */
    private static void request() {
        refused(FULL, new Row("request", (x, a) -> x.request(a[0], a[1]), thing(11, 12), Argument.number(5, 0, 5)));
    }

    /** "if it is no DRAFT, or has 4" */
    private static void line() {
        for (int r : new int[] {SENT, APPROVED, REFUSED, ORDERED, ENDED, Offices.LONG}) {
            refused(BUSY, new Row("line", (x, a) -> x.line(a[0], a[1] == 1, a[2], a[3]),
                request(r), Argument.free(0, 0, 1), Argument.value(9, 1, 99), Argument.value(9, 1, 100000)));
        }
        BUSY.takes("the third line", x -> x.line(DRAFT, true, 1, 1));
        BUSY.takes("the first line", x -> x.line(Offices.EMPTY, true, 1, 1));
    }

    /** "if it is no DRAFT, has no line, or its total is not free in a hard centre" */
    private static void send() {
        for (int r : new int[] {SENT, APPROVED, REFUSED, ORDERED, ENDED, Offices.EMPTY, Offices.POOR}) {
            refused(BUSY, new Row("send", (x, a) -> x.send(a[0]), request(r)));
        }
        BUSY.takes("with lines", x -> x.send(DRAFT));
        BUSY.takes("with 4 lines", x -> x.send(Offices.LONG));
        Refusals enough = new Refusals(RefusedTest::withEnough);
        enough.takes("all that is free", x -> x.send(Offices.POOR));
        Refusals soft = new Refusals(RefusedTest::withSoftCentres);
        soft.takes("not free in a soft centre", x -> x.send(Offices.POOR));
        Refusals nextYear = new Refusals(() -> onDay(360));
        nextYear.state("free in the old year alone", x -> x.send(Offices.POOR));
    }

    private static ChitWright withEnough() {
        ChitWright x = Offices.busy();
        x.budget(Offices.HARD_CENTRE, 0, 501);
        return x;
    }

    private static ChitWright withSoftCentres() {
        ChitWright x = Offices.busy();
        x.soft(Offices.HARD_CENTRE, true);
        return x;
    }

    /** "if it is not SENT, or that person cannot approve it now" */
    private static void approve() {
        for (int r : new int[] {DRAFT, APPROVED, REFUSED, ORDERED, ENDED, Offices.EMPTY}) {
            refused(BUSY, new Row("approve", (x, a) -> x.approve(a[0], a[1]), request(r), person(Offices.MIDDLE)));
        }
        for (int p : new int[] {Offices.BOSS, Offices.LOW}) {
            refused(BUSY, new Row("approve", (x, a) -> x.approve(a[0], a[1]), request(SENT), person(p)));
        }
        BUSY.takes("in turn", x -> x.approve(SENT, Offices.MIDDLE));
        BUSY.takes("the controller, whenever", x -> x.approve(SENT, Offices.CONTROLLER));
        Refusals once = new Refusals(() -> approvedBy(Offices.MIDDLE));
        once.state("once more", x -> x.approve(SENT, Offices.MIDDLE));
        once.takes("the next one", x -> x.approve(SENT, Offices.BOSS));
        Refusals controlled = new Refusals(() -> approvedBy(Offices.CONTROLLER));
        controlled.state("the controller once more", x -> x.approve(SENT, Offices.CONTROLLER));
        controlled.state("not in turn", x -> x.approve(SENT, Offices.BOSS));
        absentOnes("approve", ChitWright::approve);
    }

    private interface Deed {
        void on(ChitWright x, int request, int person);
    }

    private static void absentOnes(String name, Deed deed) {
        Refusals absent = new Refusals(() -> absent(Offices.CONTROLLER));
        absent.state(name + ": who is absent", x -> deed.on(x, SENT, Offices.MIDDLE));
        absent.takes(name + ": the substitute", x -> deed.on(x, SENT, Offices.CONTROLLER));
        Refusals nobody = new Refusals(() -> absent(Offices.LOW));
        nobody.state(name + ": the person of the request", x -> deed.on(x, SENT, Offices.LOW));
        nobody.state(name + ": who is absent, without a substitute", x -> deed.on(x, SENT, Offices.MIDDLE));
        nobody.state(name + ": the one behind", x -> deed.on(x, SENT, Offices.BOSS));
        nobody.takes(name + ": the controller, whenever", x -> deed.on(x, SENT, Offices.CONTROLLER));
    }

    private static ChitWright approvedBy(int person) {
        ChitWright x = Offices.busy();
        x.approve(SENT, person);
        return x;
    }

    private static ChitWright absent(int substitute) {
        ChitWright x = Offices.busy();
        x.absent(Offices.MIDDLE, 11, substitute);
        return x;
    }

    /** "if it is not SENT, or that person cannot approve it now" */
    private static void refuse() {
        for (int r : new int[] {DRAFT, APPROVED, REFUSED, ORDERED, ENDED, Offices.EMPTY}) {
            refused(BUSY, new Row("refuse", (x, a) -> x.refuse(a[0], a[1]), request(r), person(Offices.MIDDLE)));
        }
        for (int p : new int[] {Offices.BOSS, Offices.LOW}) {
            refused(BUSY, new Row("refuse", (x, a) -> x.refuse(a[0], a[1]), request(SENT), person(p)));
        }
        BUSY.takes("in turn", x -> x.refuse(SENT, Offices.MIDDLE));
        BUSY.takes("the controller, whenever", x -> x.refuse(SENT, Offices.CONTROLLER));
        Refusals once = new Refusals(() -> approvedBy(Offices.MIDDLE));
        once.state("who approved", x -> x.refuse(SENT, Offices.MIDDLE));
        once.takes("the next one", x -> x.refuse(SENT, Offices.BOSS));
        Refusals controlled = new Refusals(() -> approvedBy(Offices.CONTROLLER));
        controlled.state("the controller who approved", x -> x.refuse(SENT, Offices.CONTROLLER));
        absentOnes("refuse", ChitWright::refuse);
    }

    /** "if it is ORDERED or ENDED" */
    private static void edit() {
        for (int r : new int[] {ORDERED, ENDED}) {
            refused(BUSY, new Row("edit", (x, a) -> x.edit(a[0], a[1], a[2]), request(r), thing(1, 2), Argument.value(5, 1, 99)));
        }
        BUSY.number("a line of a request without one", x -> x.edit(Offices.EMPTY, 0, 0));
    }

    /** "if it is not APPROVED" */
    private static void order() {
        for (int r : new int[] {DRAFT, SENT, REFUSED, ORDERED, ENDED, Offices.EMPTY}) {
            refused(BUSY, new Row("order", (x, a) -> x.order(a[0], a[1]), request(r), Argument.number(5, 0, 5)));
        }
        Refusals changed = new Refusals(RefusedTest::changed);
        changed.state("105 percent are still of what it was when it was ordered", x -> x.order(0, 5));
    }

    private static ChitWright changed() {
        ChitWright x = changeable(false);
        x.change(0, 0, 21);
        return x;
    }

    /** "if it is not ORDERED, the line is of services, or there would be too many or too few" */
    private static void receive() {
        for (int r : new int[] {DRAFT, SENT, APPROVED, REFUSED, ENDED}) {
            refused(BUSY, new Row("receive", (x, a) -> x.receive(a[0], a[1], a[2]), request(r), thing(0, 2), Argument.value(1, -99, 99)));
            BUSY.range("no pieces", x -> x.receive(r, 0, 0));
        }
        BUSY.range("no pieces of services", x -> x.receive(ORDERED, 1, 0));
        BUSY.number("a line of a request without one", x -> x.receive(Offices.EMPTY, 0, 0));
        refused(BUSY,
            new Row("receive services", (x, a) -> x.receive(a[0], a[1], a[2]), request(ORDERED), thing(1, 2), Argument.value(1, -99, 99)),
            new Row("give back services", (x, a) -> x.receive(a[0], a[1], a[2]), request(ORDERED), thing(1, 2), Argument.value(-1, -99, 99)),
            new Row("receive too many", (x, a) -> x.receive(a[0], a[1], a[2]), request(ORDERED), thing(0, 2), Argument.value(33, -99, 99)),
            new Row("give back too many", (x, a) -> x.receive(a[0], a[1], a[2]), request(ORDERED), thing(0, 2), Argument.value(-2, -99, 99)));
        BUSY.state("far too many", x -> x.receive(ORDERED, 0, 99));
        BUSY.state("far too few", x -> x.receive(ORDERED, 0, -99));
        BUSY.takes("as many as its quantity", x -> x.receive(ORDERED, 0, 32));
        BUSY.takes("as many as are not on invoices that are booked", x -> x.receive(ORDERED, 0, -1));
        Refusals fresh = new Refusals(Offices::withoutInvoices);
        fresh.state("none was received", x -> x.receive(ORDERED, 0, -1));
        fresh.state("more than its quantity at once", x -> x.receive(ORDERED, 0, 41));
        fresh.takes("all at once", x -> x.receive(ORDERED, 0, 40));
    }

    /** "if it is not ORDERED, or that cannot be, as told" */
    private static void change() {
        for (int r : new int[] {DRAFT, SENT, APPROVED, REFUSED, ENDED}) {
            refused(BUSY, new Row("change", (x, a) -> x.change(a[0], a[1], a[2]), request(r), thing(0, 2), Argument.value(40, 1, 99)));
        }
        BUSY.number("a line of a request without one", x -> x.change(Offices.EMPTY, 0, 0));
        Row fewer = new Row("change to fewer than on invoices", (x, a) -> x.change(a[0], a[1], a[2]),
            request(ORDERED), thing(0, 2), Argument.value(23, 1, 99));
        refused(BUSY, fewer);
        BUSY.takes("as many as are on invoices", x -> x.change(ORDERED, 0, 24));
        Refusals received = new Refusals(() -> changeable(false));
        received.state("fewer than were received", x -> x.change(0, 0, 9));
        received.takes("as many as were received", x -> x.change(0, 0, 10));
        received.state("above 105 percent", x -> x.change(0, 0, 22));
        received.takes("105 percent", x -> x.change(0, 0, 21));
        received.state("above 105 percent in all", x -> x.change(0, 1, 21));
        received.takes("105 percent in all", x -> x.change(0, 1, 15));
        Refusals invoiced = new Refusals(() -> changeable(true));
        invoiced.state("fewer than are on invoices, held ones counted", x -> x.change(0, 0, 13));
        invoiced.takes("as many", x -> x.change(0, 0, 14));
    }

    /** 20 goods of 100 and 10 services of 20, of which 105 percent are 2310; 10 were received, and, if they are, 14 invoiced. */
    private static ChitWright changeable(boolean isInvoiced) {
        ChitWright x = Offices.soft();
        int r = Offices.draft(x, 0, false, 20, 100);
        x.line(r, true, 10, 20);
        x.send(r);
        x.order(r, 0);
        x.receive(r, 0, 10);
        if (isInvoiced) {
            x.invoice(r, 0, 8, 100);
            x.invoice(r, 0, 6, 100);
        }
        return x;
    }

    /** "for a hard centre if that is free in its year" */
    private static void changeOfBudgets() {
        Refusals poor = new Refusals(() -> changeable(99, false));
        poor.state("not free", x -> x.change(0, 0, 21));
        poor.takes("as much as it was", x -> x.change(0, 0, 20));
        poor.takes("less", x -> x.change(0, 0, 19));
        poor.takes("20 of the other line", x -> x.change(0, 1, 11));
        Refusals enough = new Refusals(() -> changeable(100, false));
        enough.takes("free", x -> x.change(0, 0, 21));
        Refusals soft = new Refusals(() -> changeable(99, true));
        soft.takes("not free in a soft centre", x -> x.change(0, 0, 21));
    }

    private static ChitWright changeable(int free, boolean isSoft) {
        ChitWright x = changeable(true);
        x.budget(0, 0, 2200 + free);
        x.soft(0, isSoft);
        return x;
    }

    /** "if it is not ORDERED, or an invoice of it is held" */
    private static void end() {
        for (int r : new int[] {DRAFT, SENT, APPROVED, REFUSED, ENDED, Offices.EMPTY, ORDERED}) {
            refused(BUSY, new Row("end", (x, a) -> x.end(a[0]), request(r)));
        }
        Refusals held = new Refusals(() -> oneInvoice(2));
        held.state("one piece is held for pieces", x -> x.end(0));
        Refusals booked = new Refusals(() -> oneInvoice(1));
        booked.takes("booked", x -> x.end(0));
    }

    private static ChitWright oneInvoice(int pieces) {
        ChitWright x = Offices.soft();
        Offices.ordered(x, 0, true, 1, 100);
        x.invoice(0, 0, pieces, 100);
        return x;
    }

    /** "if it is not ORDERED, or there are 60" */
    private static void invoice() {
        for (int r : new int[] {DRAFT, SENT, APPROVED, REFUSED, ENDED}) {
            refused(BUSY, new Row("invoice", (x, a) -> x.invoice(a[0], a[1], a[2], a[3]),
                request(r), thing(1, 2), Argument.value(1, 1, 99), Argument.value(1, 1, 100000)));
        }
        BUSY.number("a line of a request without one", x -> x.invoice(Offices.EMPTY, 0, 0, 0));
        refused(FULL, new Row("invoice", (x, a) -> x.invoice(a[0], a[1], a[2], a[3]),
            thing(39, 40), thing(3, 4), Argument.value(1, 1, 99), Argument.value(1, 1, 100000)));
    }

    /** "if it is not held for its price, or that is not the controller" */
    private static void letGo() {
        for (int i : new int[] {ChitWright.HELD, ChitWright.BOOKED, ChitWright.PAID, Offices.STOPPED, Offices.LET_GO}) {
            refused(BUSY, new Row("letGo", (x, a) -> x.letGo(a[0], a[1]), invoice(i), person(Offices.CONTROLLER)));
        }
        for (int p : new int[] {Offices.BOSS, Offices.MIDDLE, Offices.LOW}) {
            refused(BUSY, new Row("letGo", (x, a) -> x.letGo(a[0], a[1]), invoice(Offices.DEAR), person(p)));
        }
        BUSY.takes("held for its price", x -> x.letGo(Offices.DEAR, Offices.CONTROLLER));
        BUSY.takes("held for both", x -> x.letGo(Offices.DEAR_AND_MANY, Offices.CONTROLLER));
        Refusals absent = new Refusals(RefusedTest::withAbsentController);
        absent.state("the substitute of the controller", x -> x.letGo(Offices.DEAR, Offices.BOSS));
        absent.takes("the controller, absent or not", x -> x.letGo(Offices.DEAR, Offices.CONTROLLER));
    }

    private static ChitWright withAbsentController() {
        ChitWright x = Offices.busy();
        x.absent(Offices.CONTROLLER, 1079, Offices.BOSS);
        return x;
    }

    /** "if it is not PAID" */
    private static void bounce() {
        for (int i : new int[] {ChitWright.HELD, ChitWright.BOOKED, Offices.STOPPED, Offices.DEAR, Offices.DEAR_AND_MANY, Offices.LET_GO}) {
            refused(BUSY, new Row("bounce", (x, a) -> x.bounce(a[0]), invoice(i)));
        }
    }

    /** "if it is not stopped" */
    private static void goOn() {
        for (int i : new int[] {ChitWright.HELD, ChitWright.BOOKED, ChitWright.PAID, Offices.DEAR, Offices.DEAR_AND_MANY, Offices.LET_GO}) {
            refused(BUSY, new Row("goOn", (x, a) -> x.goOn(a[0]), invoice(i)));
        }
        Refusals gone = new Refusals(RefusedTest::gone);
        gone.state("it went on", x -> x.goOn(Offices.STOPPED));
    }

    private static ChitWright gone() {
        ChitWright x = Offices.busy();
        x.goOn(Offices.STOPPED);
        return x;
    }

    /** "if there are 30, or its cost is not free in a hard centre" */
    private static void trip() {
        refused(FULL, new Row("trip", (x, a) -> x.trip(a[0], a[1], a[2], a[3], a[4], a[5], a[6]),
            thing(11, 12), Argument.number(5, 0, 5), Argument.number(3, 0, 3), Argument.value(5, 1, 30),
            Argument.value(0, 0, 5), Argument.value(0, 0, 10), Argument.value(0, 0, 5000)));
        refused(BUSY, new Row("trip", (x, a) -> x.trip(a[0], a[1], a[2], a[3], a[4], a[5], a[6]),
            person(Offices.LOW), thing(Offices.HARD_CENTRE, 6), thing(1, 4), Argument.value(1, 1, 30),
            Argument.value(0, 0, 1), Argument.value(0, 0, 2), Argument.value(17, 0, 5000)));
        BUSY.takes("480 of 500", x -> x.trip(Offices.LOW, Offices.HARD_CENTRE, 1, 1, 0, 0, 16));
        Refusals enough = new Refusals(() -> withHardBudget(510));
        enough.takes("all that is free", x -> x.trip(Offices.LOW, Offices.HARD_CENTRE, 1, 1, 0, 0, 17));
        Refusals poor = new Refusals(() -> withHardBudget(509));
        poor.state("a cent is missing", x -> x.trip(Offices.LOW, Offices.HARD_CENTRE, 1, 1, 0, 0, 17));
        Refusals soft = new Refusals(RefusedTest::withSoftCentres);
        soft.takes("not free in a soft centre", x -> x.trip(Offices.LOW, Offices.HARD_CENTRE, 1, 1, 0, 0, 17));
    }

    private static ChitWright withHardBudget(int budget) {
        ChitWright x = Offices.busy();
        x.budget(Offices.HARD_CENTRE, 0, budget);
        return x;
    }

    /** "if there are 40" */
    private static void card() {
        refused(FULL, new Row("card", (x, a) -> x.card(a[0], a[1]), thing(11, 12), Argument.value(5, 1, 1000000)));
    }

    /** "if it was told, or the rest is not free in a hard centre" */
    private static void tell() {
        refused(BUSY,
            new Row("tell again", (x, a) -> x.tell(a[0], a[1], a[2]), thing(0, Offices.ENTRIES), thing(4, 6), Argument.value(250, 0, 900)),
            new Row("tell", (x, a) -> x.tell(a[0], a[1], a[2]),
                thing(1, Offices.ENTRIES), thing(Offices.HARD_CENTRE, 6), Argument.value(499, 0, 1000)));
        BUSY.takes("all that is free", x -> x.tell(1, Offices.HARD_CENTRE, 500));
        Refusals soft = new Refusals(RefusedTest::withSoftCentres);
        soft.takes("not free in a soft centre", x -> x.tell(1, Offices.HARD_CENTRE, 499));
    }
}
