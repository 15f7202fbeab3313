/** Nothing there yet, and as many as there may be. */
final class LimitsTest {
    private static final int NONE = ChitWright.NONE;

    public static void main(String[] args) {
        newObject();
        twoObjects();
        nothingToName();
        nothingToNameBeforeRanges();
        noLine();
        noInvoiceTripOrEntry();
        persons();
        requests();
        lines();
        invoices();
        invoicesOfManyLines();
        trips();
        entries();
        theLastOnesWork();
        Check.close("LimitsTest");
    }

    /** "No persons, requests, invoices, trips and card entries; the day 0." and all that is told "at first". */
    private static void newObject() {
        ChitWright x = new ChitWright();
        Check.due("the day 0", 0, x.day());
        for (int a = ChitWright.COST; a <= ChitWright.STAFF; a++) {
            Check.due("a balance", 0, x.account(a));
        }
        for (int c = 0; c < 6; c++) {
            for (int y = 0; y < 3; y++) {
                for (int w = 0; w < 4; w++) {
                    Check.due("a budget, a commitment, what was spent, and free", 0, x.centre(c, y, w));
                }
            }
            Check.due("hard at first", false, x.soft(c, true));
        }
        Check.due("no percents are carried at first", 0, x.carried(1));
        Check.due("the rate of 1 at first", 1000, x.rate(1, 100));
        Check.due("the rate of 2 at first", 1000, x.rate(2, 100));
        for (int p = 0; p < 4; p++) {
            Check.due("the rate of a place at first", 0, x.place(p, 1));
        }
        Check.due("no invoices are paid", 0, x.run(0, false));
        Check.due("none with discounts", 0, x.run(2000, true));
        Check.due("the card has nothing to be paid", 0, x.payCard());
        Check.due("a day can pass", 1, x.pass(1));
        Check.due("the first person is 0", 0, x.person(NONE, 0));
        Check.due("and the controller", 0, x.controller(0));
        suppliersAtFirst();
    }

    /** Nothing that is done in one office is seen in another one. */
    private static void twoObjects() {
        String first = Picture.of(ChitWright::new);
        ChitWright busy = Offices.busy();
        Check.due("a new one beside a busy one", first, Picture.of(ChitWright::new));
        Check.due("the busy one goes on", 10, busy.day());
        ChitWright one = new ChitWright();
        ChitWright other = new ChitWright();
        one.pass(7);
        one.person(NONE, 5);
        Check.due("the other day", 0, other.day());
        Check.refuses("no person in the other one", Check.NUMBER, () -> other.staff(0, 0));
    }

    /** "terms in days, and a discount in percent [..] all 0 at first", "a country, 0, which is home [..] a money, 0, the home one" */
    private static void suppliersAtFirst() {
        for (int s = 0; s < 6; s++) {
            ChitWright x = Offices.soft();
            x.rate(1, 2000);
            x.rate(2, 2000);
            x.pass(5);
            int r = Offices.approved(x, 0, true, 9, 1000);
            x.order(r, s);
            x.invoice(r, 0, 1, 1000);
            Check.due("the home money", 1000, x.invoiceOf(0, 2));
            Check.due("20 percent of tax at first", 200, x.invoiceOf(0, 3));
            Check.due("all of it comes back at first", 1000, x.invoiceOf(0, 4));
            Check.due("at home", 1200, x.invoiceOf(0, 5));
            Check.due("terms of 0 days", 5, x.invoiceOf(0, 6));
            Check.due("due today, so not yesterday, and without a discount", 0, x.run(4, true));
            Check.due("due today", 1, x.run(5, true));
            Check.due("no discount", -1200, x.account(ChitWright.BANK));
        }
    }

    /** "An IndexOutOfBoundsException is thrown if there is no such person, centre, request, line, [..]" */
    private static void nothingToName() {
        Refusals x = new Refusals(ChitWright::new);
        for (int n : new int[] {0, 1, -2, Integer.MAX_VALUE, Integer.MIN_VALUE}) {
            x.number("person", y -> y.person(n, 0)).number("absent", y -> y.absent(n, 0, n)).number("controller", y -> y.controller(n));
            x.number("request", y -> y.request(n, 0)).number("line", y -> y.line(n, true, 1, 1)).number("send", y -> y.send(n));
            x.number("approve", y -> y.approve(n, n)).number("refuse", y -> y.refuse(n, n)).number("edit", y -> y.edit(n, 0, 1));
            x.number("order", y -> y.order(n, 0)).number("receive", y -> y.receive(n, 0, 1)).number("change", y -> y.change(n, 0, 1));
            x.number("end", y -> y.end(n)).number("invoice", y -> y.invoice(n, 0, 1, 1)).number("letGo", y -> y.letGo(n, n));
            x.number("bounce", y -> y.bounce(n)).number("goOn", y -> y.goOn(n)).number("trip", y -> y.trip(n, 0, 0, 1, 0, 0, 0));
            x.number("advance", y -> y.advance(n, 1)).number("settle", y -> y.settle(n)).number("card", y -> y.card(n, 1));
            x.number("tell", y -> y.tell(n, 0, 0)).number("requestOf", y -> y.requestOf(n, 0)).number("next", y -> y.next(n));
            x.number("lineOf", y -> y.lineOf(n, 0, 0)).number("invoiceOf", y -> y.invoiceOf(n, 0)).number("staff", y -> y.staff(n, 0));
            x.number("tripCost", y -> y.tripCost(n)).number("isTold", y -> y.isTold(n));
            x.number("invoice sampled", y -> y.isSampled(0, n)).number("trip sampled", y -> y.isSampled(1, n));
            x.number("entry sampled", y -> y.isSampled(2, n));
        }
        x.number("the person NONE", y -> y.request(NONE, 0)).number("the controller NONE", y -> y.controller(NONE));
    }

    /** "If several exceptions of a throws clause apply, the one that is listed first is thrown." */
    private static void nothingToNameBeforeRanges() {
        Refusals x = new Refusals(ChitWright::new);
        x.number("person", y -> y.person(0, -1)).number("absent", y -> y.absent(0, -1, 0)).number("line", y -> y.line(0, true, 0, 0));
        x.number("edit", y -> y.edit(0, 0, 0)).number("receive", y -> y.receive(0, 0, 0)).number("change", y -> y.change(0, 0, 0));
        x.number("invoice", y -> y.invoice(0, 0, 0, 0)).number("trip", y -> y.trip(0, 0, 0, 0, -1, -1, -1));
        x.number("advance", y -> y.advance(0, 0)).number("card", y -> y.card(0, 0)).number("tell", y -> y.tell(0, 0, -1));
        x.number("requestOf", y -> y.requestOf(0, 6)).number("lineOf", y -> y.lineOf(0, 0, 5));
        x.number("invoiceOf", y -> y.invoiceOf(0, 8)).number("staff", y -> y.staff(0, 2));
        x.range("sampled, where the range is listed first", y -> y.isSampled(3, 0));
        x.state("nothing is free at first", y -> y.transfer(0, 1, 0, 1));
    }

    /** "A request is [..] a DRAFT at first, with up to 4 lines": none yet. */
    private static void noLine() {
        Scene empty = () -> {
            ChitWright x = Offices.soft();
            x.request(Offices.CLERK, 3);
            return x;
        };
        int[] first = {ChitWright.DRAFT, 0, 0, NONE, 0, NONE};
        for (int w = 0; w < first.length; w++) {
            Check.due("a new request, " + w, first[w], empty.make().requestOf(0, w));
        }
        Check.due("nobody can approve it", NONE, empty.make().next(0));
        Refusals x = new Refusals(empty);
        x.state("nothing to send", y -> y.send(0));
        x.number("no line to edit", y -> y.edit(0, 0, 1)).number("none to be received", y -> y.receive(0, 0, 1));
        x.number("none to change", y -> y.change(0, 0, 1)).number("none to be invoiced", y -> y.invoice(0, 0, 1, 1));
        x.number("none to tell of", y -> y.lineOf(0, 0, 0));
        x.takes("the first line", y -> y.line(0, true, 1, 1));
    }

    private static void noInvoiceTripOrEntry() {
        ChitWright x = Offices.soft();
        int r = Offices.ordered(x, 0, false, 5, 100);
        int[] line = {5, 100, 0, 0, 0};
        for (int w = 0; w < line.length; w++) {
            Check.due("a line of which nothing has come, " + w, line[w], x.lineOf(r, 0, w));
        }
        Check.due("no invoice to book", 0, x.receive(r, 0, 5));
        Check.due("nor by a change", 0, x.change(r, 0, 5));
        Check.due("nor to pay", 0, x.run(2000, true));
        Check.due("no invoice is held", 500, x.end(r));
        Check.due("nothing owed", 0, x.settle(Offices.CLERK));
        Check.due("nothing to pay", 0, x.payCard());
        x.card(Offices.CLERK, 500);
        Check.due("an open entry is not to be paid", 0, x.payCard());
        Check.due("nor owed", 0, x.staff(Offices.CLERK, 0));
        ChitWright y = Offices.soft();
        y.pass(360);
        y.pass(360);
        Check.due("years are closed without anything", 0, y.centre(0, 2, 3));
    }

    /** "Persons are numbered from 0, at most 12" */
    private static void persons() {
        ChitWright x = new ChitWright();
        for (int i = 0; i < 12; i++) {
            Check.due("person", i, x.person(i - 1, 0));
        }
        Check.refuses("a 13th", Check.STATE, () -> x.person(NONE, 0));
        Check.refuses("a 13th, told again", Check.STATE, () -> x.person(11, 0));
        Check.due("the 12th is there", 0, x.staff(11, 0));
        Check.refuses("and no 13th", Check.NUMBER, () -> x.staff(12, 0));
        x.soft(5, true);
        Check.due("a request of the 12th", 0, x.request(11, 5));
        x.line(0, true, 1, 1);
        Check.due("eleven bosses", 11, x.send(0));
        for (int i = 10; i >= 0; i--) {
            Check.due("one after the other", i, x.next(0));
            Check.due("so many still", i, x.approve(0, i));
        }
        Check.due("APPROVED", ChitWright.APPROVED, x.requestOf(0, 0));
    }

    /** "Requests are numbered from 0, at most 40." */
    private static void requests() {
        ChitWright x = Offices.soft();
        for (int i = 0; i < 40; i++) {
            Check.due("request", i, x.request(i % 2, i % 6));
        }
        Check.refuses("a 41st", Check.STATE, () -> x.request(0, 0));
        x.line(0, true, 1, 1);
        x.send(0);
        x.order(0, 0);
        x.end(0);
        Check.refuses("one that is ENDED counts", Check.STATE, () -> x.request(0, 0));
        Check.refuses("no 41st", Check.NUMBER, () -> x.requestOf(40, 0));
        Check.due("a line of the 40th", 1, x.line(39, true, 2, 30));
        Check.due("its total", 60, x.requestOf(39, 1));
        Check.due("its boss approves", 1, x.send(39));
    }

    /** "with up to 4 lines" */
    private static void lines() {
        ChitWright x = Offices.soft();
        x.request(Offices.BOSS, 0);
        x.request(Offices.BOSS, 0);
        for (int i = 1; i <= 4; i++) {
            Check.due("lines then", i, x.line(0, i % 2 == 0, 10 + i, i));
        }
        Check.refuses("a fifth", Check.STATE, () -> x.line(0, true, 1, 1));
        Check.due("another request has its own", 1, x.line(1, true, 1, 1));
        Check.due("its total is that of all", 11 + 2 * 12 + 3 * 13 + 4 * 14, x.requestOf(0, 1));
        for (int i = 0; i < 4; i++) {
            Check.due("quantity", 11 + i, x.lineOf(0, i, 0));
            Check.due("price", 1 + i, x.lineOf(0, i, 1));
        }
        Check.refuses("no fifth", Check.NUMBER, () -> x.lineOf(0, 4, 0));
        Check.due("the last one can be edited", 14, x.edit(0, 3, 99));
        x.send(0);
        x.order(0, 0);
        Check.refuses("services cannot be received", Check.STATE, () -> x.receive(0, 3, 1));
        Check.due("goods can", 0, x.receive(0, 2, 13));
        Check.due("nor are others received", 0, x.lineOf(0, 0, 2));
        Check.due("an invoice of the last one", 0, x.invoice(0, 3, 99, 4));
        Check.due("its pieces", 99, x.lineOf(0, 3, 3));
    }

    /** "Invoices are numbered from 0, at most 60" */
    private static void invoices() {
        ChitWright x = Offices.soft();
        Offices.ordered(x, 0, false, 60, 100);
        for (int i = 0; i < 60; i++) {
            Check.due("invoice", i, x.invoice(0, 0, 1, 100));
        }
        Check.refuses("a 61st", Check.STATE, () -> x.invoice(0, 0, 1, 100));
        Check.refuses("no 61st", Check.NUMBER, () -> x.invoiceOf(60, 0));
        Check.due("all are held", 60, x.lineOf(0, 0, 4));
        Check.due("59 are booked", 59, x.receive(0, 0, 59));
        Check.due("the last one is not", ChitWright.HELD, x.invoiceOf(59, 0));
        Check.due("then it is", 1, x.receive(0, 0, 1));
        Check.due("all are paid", 60, x.run(0, false));
        Check.refuses("paid ones count", Check.STATE, () -> x.invoice(0, 0, 1, 100));
        Check.due("the last one is returned", 120, x.bounce(59));
        x.goOn(59);
        Check.due("and paid", 1, x.run(0, false));
        Check.due("nothing is owed", 0, x.account(ChitWright.OWED));
    }

    private static void invoicesOfManyLines() {
        ChitWright x = Offices.full();
        for (int i = 0; i < 4; i++) {
            Check.due("15 of each line", 15, x.lineOf(39, i, 3));
        }
        Check.due("all are paid", 60, x.run(0, false));
    }

    /** "Trips are numbered from 0, at most 30." */
    private static void trips() {
        ChitWright x = Offices.soft();
        for (int i = 0; i < 30; i++) {
            Check.due("trip", i, x.trip(i % 2, i % 6, i % 4, 1, 0, 0, i));
        }
        Check.refuses("a 31st", Check.STATE, () -> x.trip(0, 0, 0, 1, 0, 0, 0));
        Check.refuses("no 31st", Check.NUMBER, () -> x.tripCost(30));
        for (int i = 0; i < 30; i++) {
            Check.due("its cost", 30L * i, x.tripCost(i));
        }
        x.settle(0);
        x.settle(1);
        Check.refuses("settled ones count", Check.STATE, () -> x.trip(0, 0, 0, 1, 0, 0, 0));
    }

    /** "Card entries are numbered from 0, at most 40" */
    private static void entries() {
        ChitWright x = Offices.soft();
        for (int i = 0; i < 40; i++) {
            Check.due("entry", i, x.card(i % 2, 100 + i));
        }
        Check.refuses("a 41st", Check.STATE, () -> x.card(0, 1));
        Check.refuses("no 41st", Check.NUMBER, () -> x.isTold(40));
        Check.due("the last one", 139, x.tell(39, 5, 0));
        Check.due("the first one", 90, x.tell(0, 0, 10));
        for (int i = 0; i < 40; i++) {
            Check.due("told", i == 0 || i == 39, x.isTold(i));
        }
        Check.due("both are paid", 239, x.payCard());
        Check.refuses("told and paid ones count", Check.STATE, () -> x.card(0, 1));
    }

    /** When all is full, what is there goes on. */
    private static void theLastOnesWork() {
        ChitWright x = Offices.full();
        Check.due("the last trips are owed", 900, x.settle(11));
        Check.due("the last entry", 99, x.tell(39, 0, 1));
        Check.due("the last person owes it", -1, x.staff(11, 0));
        x.absent(11, 1079, 10);
        Check.due("the last one is the controller", 0, x.controller(11));
        Check.due("a line of the first request", 1, x.line(0, true, 99, 100000));
        Check.due("its boss, and the controller", 2, x.send(0));
        Check.due("the boss", Offices.BOSS, x.next(0));
        Check.due("who approves for the controller", 1, x.approve(0, 10));
        Check.due("the boss approves", 0, x.approve(0, Offices.BOSS));
        x.order(0, 5);
        x.sample(0, 100);
        Check.due("the last invoice is sampled", true, x.isSampled(0, 59));
        Check.due("the last trip is sampled", true, x.isSampled(1, 29));
        Check.due("the last entry is sampled", true, x.isSampled(2, 39));
    }
}
