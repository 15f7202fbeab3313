/** Promises 19 to 24: orders, parts received, invoices; with 40 and 41, what is told of them. */
final class OrdersTest {
    private static final int NONE = ChitWright.NONE;

    public static void main(String[] args) {
        promise19();
        promise20();
        rising();
        promise21();
        changeOfServices();
        changeOfBudgets();
        promise22();
        promise23();
        heldForPieces();
        heldForPrice();
        booking();
        abroad();
        promise24();
        Check.close("OrdersTest");
    }

    private static void promise19() {
        ChitWright x = Offices.soft();
        int r = Offices.draft(x, 0, false, 10, 100);
        Check.refuses("a DRAFT", Check.STATE, () -> x.order(r, 5));
        x.send(r);
        Check.refuses("request 1", Check.NUMBER, () -> x.order(1, 0));
        Check.refuses("request -1", Check.NUMBER, () -> x.order(-1, 0));
        Check.refuses("supplier 6", Check.NUMBER, () -> x.order(r, 6));
        Check.refuses("supplier -1", Check.NUMBER, () -> x.order(r, -1));
        Check.due("no supplier", NONE, x.requestOf(r, 5));
        x.order(r, 5);
        Check.due("ORDERED", ChitWright.ORDERED, x.requestOf(r, 0));
        Check.due("its supplier", 5, x.requestOf(r, 5));
        Check.due("its commitment stays", 1000, x.requestOf(r, 2));
        Check.due("in the centre too", 1000, x.centre(0, 0, 1));
        Check.refuses("ORDERED", Check.STATE, () -> x.order(r, 5));
        Check.refuses("ORDERED, supplier 6", Check.NUMBER, () -> x.order(r, 6));
        int sent = x.request(Offices.CLERK, 0);
        x.line(sent, false, 1, 1);
        x.send(sent);
        Check.refuses("SENT", Check.STATE, () -> x.order(sent, 0));
    }

    private static void promise20() {
        ChitWright x = Offices.soft();
        int r = Offices.approved(x, 0, false, 99, 10);
        x.edit(r, 0, 99);
        x.line(r, true, 5, 10);
        x.send(r);
        Check.refuses("not ORDERED", Check.STATE, () -> x.receive(r, 0, 1));
        x.order(r, 0);
        Check.refuses("request 1", Check.NUMBER, () -> x.receive(1, 0, 1));
        Check.refuses("line 2", Check.NUMBER, () -> x.receive(r, 2, 0));
        Check.refuses("line -1", Check.NUMBER, () -> x.receive(r, -1, 0));
        Check.refuses("0 pieces", Check.RANGE, () -> x.receive(r, 0, 0));
        Check.refuses("0 pieces of services", Check.RANGE, () -> x.receive(r, 1, 0));
        Check.refuses("100 pieces", Check.RANGE, () -> x.receive(r, 0, 100));
        Check.refuses("-100 pieces", Check.RANGE, () -> x.receive(r, 0, -100));
        Check.refuses("services", Check.STATE, () -> x.receive(r, 1, 1));
        Check.refuses("none to give back", Check.STATE, () -> x.receive(r, 0, -1));
        Check.due("all", 0, x.receive(r, 0, 99));
        Check.refuses("one more", Check.STATE, () -> x.receive(r, 0, 1));
        Check.due("received", 99, x.lineOf(r, 0, 2));
        Check.due("all back", 0, x.receive(r, 0, -99));
        Check.due("none", 0, x.lineOf(r, 0, 2));
        x.receive(r, 0, 10);
        x.invoice(r, 0, 4, 10);
        x.run(2000, false);
        x.invoice(r, 0, 3, 10);
        x.invoice(r, 0, 9, 10);
        Check.refuses("7 are on booked invoices", Check.STATE, () -> x.receive(r, 0, -4));
        Check.due("3 are not", 0, x.receive(r, 0, -3));
        Check.due("booked, paid or not", 7, x.lineOf(r, 0, 3));
        Check.due("held", 9, x.lineOf(r, 0, 4));
        x.receive(r, 0, 8);
        Check.due("not enough", ChitWright.HELD, x.invoiceOf(2, 0));
        Check.due("now it is booked", 1, x.receive(r, 0, 1));
        x.end(r);
        Check.refuses("ENDED", Check.STATE, () -> x.receive(r, 0, 1));
    }

    private static void rising() {
        ChitWright x = Offices.soft();
        int r = Offices.approved(x, 0, false, 50, 10);
        x.edit(r, 0, 50);
        x.line(r, false, 50, 10);
        x.send(r);
        x.order(r, 0);
        x.invoice(r, 0, 5, 10);
        x.invoice(r, 0, 7, 10);
        x.invoice(r, 0, 2, 10);
        x.invoice(r, 1, 1, 10);
        x.invoice(r, 0, 1, 11);
        Check.due("0 and 2, but not 1, 3 and 4", 2, x.receive(r, 0, 8));
        Check.due("0", ChitWright.BOOKED, x.invoiceOf(0, 0));
        Check.due("1", ChitWright.HELD, x.invoiceOf(1, 0));
        Check.due("2", ChitWright.BOOKED, x.invoiceOf(2, 0));
        Check.due("3 is of another line", ChitWright.HELD, x.invoiceOf(3, 0));
        Check.due("4 is too dear", ChitWright.HELD, x.invoiceOf(4, 0));
        Check.due("giving back books none", 0, x.receive(r, 0, -1));
        Check.due("the other line", 1, x.receive(r, 1, 1));
        Check.due("1 at last", 1, x.receive(r, 0, 7));
    }

    private static void promise21() {
        ChitWright x = Offices.soft();
        int r = Offices.approved(x, 0, false, 20, 100);
        Check.refuses("not ORDERED", Check.STATE, () -> x.change(r, 0, 20));
        x.order(r, 0);
        Check.refuses("request 1", Check.NUMBER, () -> x.change(1, 0, 0));
        Check.refuses("line 1", Check.NUMBER, () -> x.change(r, 1, 0));
        Check.refuses("line -1", Check.NUMBER, () -> x.change(r, -1, 20));
        Check.refuses("quantity 0", Check.RANGE, () -> x.change(r, 0, 0));
        Check.refuses("quantity 100", Check.RANGE, () -> x.change(r, 0, 100));
        Check.refuses("more than 105 percent", Check.STATE, () -> x.change(r, 0, 22));
        Check.due("105 percent", 0, x.change(r, 0, 21));
        Check.due("so much more", 2100, x.requestOf(r, 2));
        Check.due("its total", 2100, x.requestOf(r, 1));
        Check.due("in the centre", 2100, x.centre(0, 0, 1));
        Check.refuses("105 percent of what it was first", Check.STATE, () -> x.change(r, 0, 22));
        x.receive(r, 0, 5);
        Check.refuses("fewer than were received", Check.STATE, () -> x.change(r, 0, 4));
        x.invoice(r, 0, 3, 100);
        x.invoice(r, 0, 4, 100);
        Check.refuses("fewer than on invoices, held ones counted", Check.STATE, () -> x.change(r, 0, 6));
        Check.due("as many", 0, x.change(r, 0, 7));
        Check.due("2100 less 300 less 1400", 400, x.requestOf(r, 2));
        Check.due("quantity", 7, x.lineOf(r, 0, 0));
        x.receive(r, 0, 2);
        Check.due("as far as there is some", 0, x.requestOf(r, 2));
        x.end(r);
        Check.refuses("ENDED", Check.STATE, () -> x.change(r, 0, 7));
    }

    private static void changeOfServices() {
        ChitWright x = Offices.soft();
        int r = Offices.approved(x, 0, true, 10, 100);
        x.edit(r, 0, 10);
        x.line(r, true, 99, 100);
        x.send(r);
        x.order(r, 0);
        x.invoice(r, 0, 8, 100);
        x.invoice(r, 0, 3, 100);
        x.invoice(r, 0, 1, 100);
        Check.due("2 is booked, 1 is held", ChitWright.BOOKED, x.invoiceOf(2, 0));
        Check.due("for pieces", 1, x.invoiceOf(1, 1));
        Check.refuses("11 is fewer than on invoices", Check.STATE, () -> x.change(r, 0, 11));
        Check.due("booked by that", 1, x.change(r, 0, 12));
        Check.due("all on booked ones", 12, x.lineOf(r, 0, 3));
        Check.due("more, then taken", 9900, x.requestOf(r, 2));
        x.change(r, 1, 1);
        Check.due("so much less", 100, x.requestOf(r, 2));
        Check.refuses("not below 12", Check.STATE, () -> x.change(r, 0, 11));
        x.invoice(r, 1, 1, 105);
        Check.due("nothing left", 0, x.requestOf(r, 2));
        int other = Offices.ordered(x, 0, true, 10, 100);
        x.invoice(other, 0, 4, 100);
        x.invoice(other, 0, 1, 200);
        x.letGo(4 + 1, Offices.BOSS);
        Check.due("500 left", 500, x.requestOf(other, 2));
        Check.due("less", 0, x.change(other, 0, 5));
        Check.due("none left", 0, x.requestOf(other, 2));
        x.change(other, 0, 10);
        Check.due("more again", 500, x.requestOf(other, 2));
    }

    private static void changeOfBudgets() {
        ChitWright x = Offices.hard();
        x.budget(0, 0, 2050);
        int r = Offices.ordered(x, 0, false, 20, 100);
        Check.refuses("not free", Check.STATE, () -> x.change(r, 0, 21));
        x.budget(0, 0, 2100);
        x.change(r, 0, 21);
        Check.due("free", 0, x.centre(0, 0, 3));
        x.budget(0, 0, 0);
        x.change(r, 0, 20);
        Check.due("less can always be", -2000, x.centre(0, 0, 3));
        Check.due("the same too", 0, x.change(r, 0, 20));
        x.soft(0, true);
        x.change(r, 0, 21);
        Check.due("soft", -2100, x.centre(0, 0, 3));
        x.pass(360);
        x.soft(0, false);
        x.change(r, 0, 20);
        x.budget(0, 1, 2099);
        Check.refuses("not free in the year that is its year now", Check.STATE, () -> x.change(r, 0, 21));
        x.budget(0, 1, 2100);
        x.change(r, 0, 21);
        Check.due("committed there", 2100, x.centre(0, 1, 1));
        ChitWright y = Offices.soft();
        int received = Offices.ordered(y, 0, false, 20, 100);
        y.receive(received, 0, 5);
        Check.due("as many as were received", 0, y.change(received, 0, 5));
        int cheap = Offices.ordered(y, 1, true, 20, 1);
        y.change(cheap, 0, 21);
        Check.due("one cent more", 21, y.centre(1, 0, 1));
        int odd = Offices.ordered(y, 0, true, 19, 1);
        Check.refuses("105 percent of 19 are 19", Check.STATE, () -> y.change(odd, 0, 20));
    }

    private static void promise22() {
        ChitWright x = Offices.soft();
        int r = Offices.approved(x, 3, false, 10, 100);
        Check.refuses("not ORDERED", Check.STATE, () -> x.end(r));
        Check.refuses("request 1", Check.NUMBER, () -> x.end(1));
        Check.refuses("request -1", Check.NUMBER, () -> x.end(-1));
        x.order(r, 0);
        x.receive(r, 0, 3);
        x.invoice(r, 0, 2, 100);
        x.invoice(r, 0, 2, 100);
        Check.refuses("one is held", Check.STATE, () -> x.end(r));
        x.receive(r, 0, 1);
        Check.due("what is left", 600, x.end(r));
        Check.due("ENDED", ChitWright.ENDED, x.requestOf(r, 0));
        Check.due("nothing committed", 0, x.requestOf(r, 2));
        Check.due("free again", 0, x.centre(3, 0, 1));
        Check.due("spent", 400, x.centre(3, 0, 2));
        Check.due("its supplier stays", 0, x.requestOf(r, 5));
        Check.refuses("ENDED", Check.STATE, () -> x.end(r));
        int second = Offices.approved(x, 3, true, 1, 100);
        x.edit(second, 0, 1);
        x.line(second, false, 1, 100);
        x.send(second);
        x.order(second, 0);
        x.invoice(second, 1, 1, 100);
        Check.refuses("one piece of the second line is held", Check.STATE, () -> x.end(second));
        int whole = Offices.ordered(x, 3, true, 1, 100);
        x.invoice(whole, 0, 1, 100);
        Check.due("nothing is left", 0, x.end(whole));
    }

    private static void promise23() {
        ChitWright x = Offices.soft();
        int r = Offices.approved(x, 0, true, 99, 100000);
        Check.refuses("not ORDERED", Check.STATE, () -> x.invoice(r, 0, 1, 1));
        x.order(r, 0);
        Check.refuses("request 1", Check.NUMBER, () -> x.invoice(1, 0, 1, 1));
        Check.refuses("line 1", Check.NUMBER, () -> x.invoice(r, 1, 0, 1));
        Check.refuses("line -1", Check.NUMBER, () -> x.invoice(r, -1, 1, 0));
        Check.refuses("0 pieces", Check.RANGE, () -> x.invoice(r, 0, 0, 1));
        Check.refuses("100 pieces", Check.RANGE, () -> x.invoice(r, 0, 100, 1));
        Check.refuses("price 0", Check.RANGE, () -> x.invoice(r, 0, 1, 0));
        Check.refuses("price 100001", Check.RANGE, () -> x.invoice(r, 0, 1, 100001));
        Check.due("the most", 0, x.invoice(r, 0, 99, 100000));
        Check.due("net", 9900000, x.invoiceOf(0, 2));
        for (int i = 1; i < 60; i++) {
            Check.due("invoice", i, x.invoice(r, 0, 1, 1));
        }
        Check.refuses("a 61st", Check.STATE, () -> x.invoice(r, 0, 1, 1));
        Check.refuses("a 61st, out of range", Check.RANGE, () -> x.invoice(r, 0, 1, 0));
        ChitWright y = Offices.soft();
        int ended = Offices.ordered(y, 0, true, 1, 1);
        y.end(ended);
        Check.refuses("ENDED", Check.STATE, () -> y.invoice(ended, 0, 1, 1));
    }

    private static void heldForPieces() {
        ChitWright x = Offices.soft();
        int r = Offices.ordered(x, 0, false, 10, 100);
        x.receive(r, 0, 6);
        x.invoice(r, 0, 7, 100);
        int[] held = {ChitWright.HELD, 1, 700, 0, 0, 0, NONE, 0};
        for (int w = 0; w < 8; w++) {
            Check.due("a held one, " + w, held[w], x.invoiceOf(0, w));
        }
        Check.due("pieces on held ones", 7, x.lineOf(r, 0, 4));
        Check.due("nothing spent", 0, x.centre(0, 0, 2));
        Check.due("nothing in the accounts", 0, x.account(ChitWright.OWED));
        x.invoice(r, 0, 6, 100);
        Check.due("held ones do not count", ChitWright.BOOKED, x.invoiceOf(1, 0));
        Check.due("a booked one is held for nothing", 0, x.invoiceOf(1, 1));
        x.invoice(r, 0, 1, 200);
        Check.due("for both", 3, x.invoiceOf(2, 1));
        x.receive(r, 0, 1);
        Check.due("as things are", 2, x.invoiceOf(2, 1));
        x.receive(r, 0, 1);
        x.receive(r, 0, -1);
        x.invoice(r, 0, 1, 100);
        Check.due("for both again", 3, x.invoiceOf(2, 1));
        ChitWright y = Offices.soft();
        int services = Offices.ordered(y, 0, true, 10, 100);
        y.invoice(services, 0, 10, 100);
        Check.due("services: the quantity", ChitWright.BOOKED, y.invoiceOf(0, 0));
        y.invoice(services, 0, 1, 100);
        Check.due("one more", 1, y.invoiceOf(1, 1));
    }

    private static void heldForPrice() {
        ChitWright x = Offices.soft();
        int r = Offices.ordered(x, 0, true, 99, 39);
        x.invoice(r, 0, 1, 40);
        x.invoice(r, 0, 1, 41);
        x.invoice(r, 0, 20, 40);
        x.invoice(r, 0, 20, 41);
        Check.due("39 and 1", 0, x.invoiceOf(0, 1));
        Check.due("more", 2, x.invoiceOf(1, 1));
        Check.due("780 and 39, 800", 0, x.invoiceOf(2, 1));
        Check.due("780 and 39, 820", 2, x.invoiceOf(3, 1));
        x.supplier(0, 0, 1, 0, 0, 0);
        x.rate(1, 1049);
        x.invoice(r, 0, 10, 39);
        Check.due("by the rate, rounded down: 409", 0, x.invoiceOf(4, 1));
        x.rate(1, 1052);
        x.invoice(r, 0, 10, 39);
        Check.due("by the rate: 410 against 409", 2, x.invoiceOf(5, 1));
        x.rate(1, 100);
        Check.due("by the rate of then", 2, x.invoiceOf(5, 1));
        Check.due("its net too", 410, x.invoiceOf(5, 2));
    }

    private static void booking() {
        ChitWright x = Offices.soft();
        x.supplier(0, 0, 0, 30, 0, 0);
        x.taxes(19, 50);
        x.pass(7);
        int r = Offices.ordered(x, 4, false, 10, 1000);
        x.invoice(r, 0, 3, 1003);
        x.taxes(7, 33);
        x.supplier(0, 0, 0, 14, 0, 0);
        x.pass(2);
        Check.due("booked", 1, x.receive(r, 0, 3));
        int[] booked = {ChitWright.BOOKED, 0, 3009, 210, 3009 + 210 - 69, 3219, 23, 0};
        for (int w = 0; w < 8; w++) {
            Check.due("by the percents and terms when it is booked, " + w, booked[w], x.invoiceOf(0, w));
        }
        Check.due("spent", 3150, x.centre(4, 0, 2));
        Check.due("pieces times the price of the line", 7000, x.requestOf(r, 2));
        Check.due("in the centre too", 7000, x.centre(4, 0, 1));
        Check.due("COST", 3150, x.account(ChitWright.COST));
        Check.due("TAX", 69, x.account(ChitWright.TAX));
        Check.due("OWED", -3219, x.account(ChitWright.OWED));
        x.pass(360);
        x.invoice(r, 0, 2, 1000);
        x.receive(r, 0, 2);
        Check.due("spent in the year of now", 2000 + 140 - 46, x.centre(4, 1, 2));
    }

    private static void abroad() {
        ChitWright x = Offices.soft();
        int r = Offices.ordered(x, 0, false, 10, 1000);
        x.invoice(r, 0, 1, 1000);
        x.taxes(20, 60);
        x.supplier(0, 2, 0, 0, 0, 0);
        x.receive(r, 0, 10);
        Check.due("tax", 200, x.invoiceOf(0, 3));
        Check.due("cost", 1080, x.invoiceOf(0, 4));
        Check.due("owed", 1000, x.invoiceOf(0, 5));
        Check.due("TAX: 120 less 200", -80, x.account(ChitWright.TAX));
        Check.due("OWED", -1000, x.account(ChitWright.OWED));
        Check.due("COST", 1080, x.account(ChitWright.COST));
    }

    private static void promise24() {
        ChitWright x = Offices.soft();
        int r = Offices.ordered(x, 0, false, 10, 100);
        x.receive(r, 0, 5);
        x.invoice(r, 0, 1, 106);
        x.invoice(r, 0, 9, 106);
        x.invoice(r, 0, 9, 100);
        x.invoice(r, 0, 1, 100);
        Check.refuses("invoice 4", Check.NUMBER, () -> x.letGo(4, 0));
        Check.refuses("invoice -1", Check.NUMBER, () -> x.letGo(-1, 0));
        Check.refuses("person 2", Check.NUMBER, () -> x.letGo(0, 2));
        Check.refuses("person -1", Check.NUMBER, () -> x.letGo(0, -1));
        Check.refuses("not the controller", Check.STATE, () -> x.letGo(0, 1));
        Check.refuses("held for pieces", Check.STATE, () -> x.letGo(2, 0));
        Check.refuses("booked", Check.STATE, () -> x.letGo(3, 0));
        x.absent(0, 9, 1);
        Check.refuses("no substitute lets go", Check.STATE, () -> x.letGo(0, 1));
        Check.due("booked by that", true, x.letGo(0, 0));
        Check.due("its owed", 106 + 21, x.invoiceOf(0, 5));
        Check.refuses("only once", Check.STATE, () -> x.letGo(0, 0));
        x.controller(1);
        Check.refuses("no more the controller", Check.STATE, () -> x.letGo(1, 0));
        Check.due("still held for pieces", false, x.letGo(1, 1));
        Check.due("for pieces alone", 1, x.invoiceOf(1, 1));
        Check.refuses("not held for its price any more", Check.STATE, () -> x.letGo(1, 1));
        x.receive(r, 0, 5);
        Check.due("11 would be too many", ChitWright.HELD, x.invoiceOf(1, 0));
        ChitWright y = Offices.soft();
        int s = Offices.ordered(y, 0, false, 10, 100);
        y.invoice(s, 0, 10, 200);
        y.letGo(0, 0);
        Check.due("for good", 1, y.receive(s, 0, 10));
    }
}
