/**
 * The range of each argument: its ends are taken, the first ones beside it and the farthest ints are refused, with the exception
 * that is listed first if several apply, and nothing is changed by that.
 */
final class RangesTest {
    private static final int NONE = ChitWright.NONE;
    private static final int PERSONS = Offices.PERSONS;
    private static final int LAST = PERSONS - 1;

    private static final Refusals BUSY = new Refusals(Offices::busy);
    private static final Refusals RICH = new Refusals(RangesTest::rich);
    private static final Refusals ORDERS = new Refusals(Offices::withoutInvoices);

    public static void main(String[] args) {
        office();
        suppliers();
        requests();
        orders();
        invoices();
        trips();
        cards();
        questions();
        questionsOfThings();
        Check.close("RangesTest");
    }

    private static void of(Refusals refusals, Row... rows) {
        for (Row row : rows) {
            row.takesItsRanges(refusals);
            row.refusesBeside(refusals);
        }
    }

    /** A boolean. */
    private static Argument flag() {
        return Argument.free(0, 0, 1);
    }

    private static Argument person() {
        return Argument.number(0, 0, LAST);
    }

    private static Argument onePerson(int good) {
        return Argument.thing(good, PERSONS);
    }

    private static Argument centre() {
        return Argument.number(2, 0, 5);
    }

    private static Argument request(int good) {
        return Argument.thing(good, Offices.REQUESTS);
    }

    private static Argument invoice(int good) {
        return Argument.thing(good, Offices.INVOICES);
    }

    /** Every centre has all the budget there may be, in every year. */
    private static ChitWright rich() {
        ChitWright x = Offices.hard();
        for (int c = 0; c < 6; c++) {
            for (int y = 0; y < 3; y++) {
                x.budget(c, y, 100000000);
            }
        }
        return x;
    }

    private static void office() {
        of(BUSY,
            new Row("person", (x, a) -> x.person(a[0], a[1]), Argument.number(NONE, NONE, LAST), Argument.value(7, 0, 10000000)),
            new Row("absent", (x, a) -> x.absent(a[0], a[1], a[2]), onePerson(0), Argument.value(20, 0, 1079), onePerson(LAST)),
            new Row("absent", (x, a) -> x.absent(a[0], a[1], a[2]), onePerson(LAST), Argument.value(20, 0, 1079), onePerson(0)),
            new Row("absent", (x, a) -> x.absent(a[0], a[1], a[2]),
                onePerson(Offices.MIDDLE), Argument.value(20, 0, 1079), onePerson(Offices.LOW)),
            new Row("controller", (x, a) -> x.controller(a[0]), person()),
            new Row("budget", (x, a) -> x.budget(a[0], a[1], a[2]),
                centre(), Argument.number(0, 0, 2), Argument.value(9, 0, 100000000)),
            new Row("soft", (x, a) -> x.soft(a[0], a[1] == 1), centre(), flag()),
            new Row("carried", (x, a) -> x.carried(a[0]), Argument.value(9, 0, 100)),
            new Row("taxes", (x, a) -> x.taxes(a[0], a[1]), Argument.value(9, 0, 30), Argument.value(9, 0, 100)),
            new Row("pass", (x, a) -> x.pass(a[0]), Argument.value(1, 1, 360)));
        for (int i = 0; i < PERSONS; i++) {
            int same = i;
            BUSY.range("absent, both the same", x -> x.absent(same, 20, same));
        }
        for (int i = 0; i < 6; i++) {
            int same = i;
            RICH.range("transfer, both the same", x -> x.transfer(same, same, 0, 9));
        }
        of(RICH,
            new Row("transfer", (x, a) -> x.transfer(a[0], a[1], a[2], a[3]),
                Argument.number(3, 0, 5), Argument.number(4, 0, 5), Argument.number(1, 0, 2), Argument.value(9, 1, 100000000)));
    }

    private static void suppliers() {
        of(BUSY,
            new Row("supplier", (x, a) -> x.supplier(a[0], a[1], a[2], a[3], a[4], a[5]),
                Argument.number(1, 0, 5), Argument.number(2, 0, 2), Argument.number(2, 0, 2),
                Argument.value(1, 0, 90), Argument.value(1, 0, 10), Argument.value(1, 0, 30)),
            new Row("rate", (x, a) -> x.rate(a[0], a[1]), Argument.number(1, 1, 2), Argument.value(1000, 100, 10000)));
    }

    private static void requests() {
        of(BUSY,
            new Row("request", (x, a) -> x.request(a[0], a[1]), person(), centre()),
            new Row("line", (x, a) -> x.line(a[0], a[1] == 1, a[2], a[3]),
                request(ChitWright.DRAFT), flag(), Argument.value(9, 1, 99), Argument.value(9, 1, 100000)),
            new Row("send", (x, a) -> x.send(a[0]), request(ChitWright.DRAFT)),
            new Row("approve", (x, a) -> x.approve(a[0], a[1]), request(ChitWright.SENT), onePerson(Offices.MIDDLE)),
            new Row("refuse", (x, a) -> x.refuse(a[0], a[1]), request(ChitWright.SENT), onePerson(Offices.MIDDLE)));
        for (int state = ChitWright.DRAFT; state <= ChitWright.REFUSED; state++) {
            of(BUSY, new Row("edit", (x, a) -> x.edit(a[0], a[1], a[2]),
                request(state), Argument.number(0, 0, 1), Argument.value(9, 1, 99)));
        }
    }

    private static void orders() {
        of(BUSY,
            new Row("order", (x, a) -> x.order(a[0], a[1]), request(ChitWright.APPROVED), Argument.number(0, 0, 5)),
            new Row("receive", (x, a) -> x.receive(a[0], a[1], a[2]),
                request(ChitWright.ORDERED), Argument.thing(0, 2), Argument.within(1, -99, 99)),
            new Row("give back", (x, a) -> x.receive(a[0], a[1], a[2]),
                request(ChitWright.ORDERED), Argument.thing(0, 2), Argument.within(-1, -99, 99)));
        BUSY.range("neither received nor given back", x -> x.receive(ChitWright.ORDERED, 0, 0));
        of(ORDERS,
            new Row("change", (x, a) -> x.change(a[0], a[1], a[2]),
                request(ChitWright.ORDERED), Argument.thing(0, 2), Argument.within(40, 1, 99)),
            new Row("change", (x, a) -> x.change(a[0], a[1], a[2]),
                request(ChitWright.ORDERED), Argument.thing(1, 2), Argument.within(1, 1, 99)),
            new Row("end", (x, a) -> x.end(a[0]), request(ChitWright.ORDERED)));
    }

    private static void invoices() {
        of(BUSY,
            new Row("invoice", (x, a) -> x.invoice(a[0], a[1], a[2], a[3]),
                request(ChitWright.ORDERED), Argument.number(0, 0, 1), Argument.value(1, 1, 99), Argument.value(1, 1, 100000)),
            new Row("letGo", (x, a) -> x.letGo(a[0], a[1]), invoice(Offices.DEAR), onePerson(Offices.CONTROLLER)),
            new Row("run", (x, a) -> x.run(a[0], a[1] == 1), Argument.value(9, 0, 2000), flag()),
            new Row("bounce", (x, a) -> x.bounce(a[0]), invoice(ChitWright.PAID)),
            new Row("goOn", (x, a) -> x.goOn(a[0]), invoice(Offices.STOPPED)));
    }

    private static void trips() {
        of(BUSY,
            new Row("place", (x, a) -> x.place(a[0], a[1]), Argument.number(0, 0, 3), Argument.value(9, 0, 50000)),
            new Row("trip", (x, a) -> x.trip(a[0], a[1], a[2], a[3], a[4], a[5], a[6]),
                person(), centre(), Argument.number(1, 0, 3), Argument.value(5, 1, 30),
                Argument.value(0, 0, 5), Argument.value(0, 0, 10), Argument.value(0, 0, 5000)),
            new Row("trip of one day", (x, a) -> x.trip(2, 2, 0, 1, a[0], a[1], 0), Argument.value(0, 0, 1), Argument.value(0, 0, 2)),
            new Row("trip of 30 days", (x, a) -> x.trip(2, 2, 0, 30, a[0], a[1], 0), Argument.value(0, 0, 30), Argument.value(0, 0, 60)),
            new Row("advance", (x, a) -> x.advance(a[0], a[1]), person(), Argument.value(9, 1, 1000000)),
            new Row("settle", (x, a) -> x.settle(a[0]), person()));
    }

    private static void cards() {
        of(BUSY,
            new Row("card", (x, a) -> x.card(a[0], a[1]), person(), Argument.value(9, 1, 1000000)),
            new Row("tell", (x, a) -> x.tell(a[0], a[1], a[2]), Argument.thing(1, Offices.ENTRIES), centre(), Argument.value(600, 0, 1000)),
            new Row("sample", (x, a) -> x.sample(a[0], a[1]),
                Argument.free(123456789, Integer.MIN_VALUE, Integer.MAX_VALUE), Argument.value(9, 0, 100)));
    }

    private static void questions() {
        of(BUSY,
            new Row("payCard", (x, a) -> x.payCard()),
            new Row("day", (x, a) -> x.day()),
            new Row("centre", (x, a) -> x.centre(a[0], a[1], a[2]), centre(), Argument.number(0, 0, 2), Argument.value(0, 0, 3)),
            new Row("account", (x, a) -> x.account(a[0]), Argument.number(0, 0, 8)),
            new Row("staff", (x, a) -> x.staff(a[0], a[1]), person(), Argument.value(0, 0, 1)),
            new Row("isSampled", (x, a) -> x.isSampled(a[0], a[1]),
                Argument.within(0, 0, 2), Argument.number(0, 0, Offices.INVOICES - 1)).rangeIsListedFirst(),
            new Row("isSampled", (x, a) -> x.isSampled(a[0], a[1]),
                Argument.within(1, 0, 2), Argument.number(0, 0, Offices.TRIPS - 1)).rangeIsListedFirst(),
            new Row("isSampled", (x, a) -> x.isSampled(a[0], a[1]),
                Argument.within(2, 0, 2), Argument.number(0, 0, Offices.ENTRIES - 1)).rangeIsListedFirst());
    }

    private static void questionsOfThings() {
        of(BUSY,
            new Row("requestOf", (x, a) -> x.requestOf(a[0], a[1]),
                Argument.number(0, 0, Offices.REQUESTS - 1), Argument.value(0, 0, 5)),
            new Row("next", (x, a) -> x.next(a[0]), Argument.number(0, 0, Offices.REQUESTS - 1)),
            new Row("lineOf", (x, a) -> x.lineOf(a[0], a[1], a[2]),
                request(Offices.LONG), Argument.number(0, 0, 3), Argument.value(0, 0, 4)),
            new Row("lineOf", (x, a) -> x.lineOf(a[0], a[1], a[2]),
                request(ChitWright.ENDED), Argument.number(0, 0, 1), Argument.value(0, 0, 4)),
            new Row("invoiceOf", (x, a) -> x.invoiceOf(a[0], a[1]),
                Argument.number(0, 0, Offices.INVOICES - 1), Argument.value(0, 0, 7)),
            new Row("tripCost", (x, a) -> x.tripCost(a[0]), Argument.number(0, 0, Offices.TRIPS - 1)),
            new Row("isTold", (x, a) -> x.isTold(a[0]), Argument.number(0, 0, Offices.ENTRIES - 1)));
    }
}
