/** Promises 36 to 46: what is asked, beside what the other tests ask; and the closing of years. */
final class AskedTest {
    public static void main(String[] args) {
        promise36();
        promise37();
        promise38();
        promise39();
        promise40();
        promise41();
        promise42();
        promise45();
        closing();
        closingOfRequests();
        closingTwice();
        passingOver();
        Check.close("AskedTest");
    }

    private static void promise36() {
        ChitWright x = Offices.soft();
        Check.due("0", 0, x.day());
        x.pass(17);
        x.pass(3);
        Check.due("20", 20, x.day());
    }

    private static void promise37() {
        ChitWright x = Offices.soft();
        x.budget(3, 0, 1000);
        Offices.approved(x, 3, true, 1, 300);
        x.trip(0, 3, 0, 1, 0, 0, 10);
        Check.due("budget", 1000, x.centre(3, 0, 0));
        Check.due("commitment", 300, x.centre(3, 0, 1));
        Check.due("spent", 300, x.centre(3, 0, 2));
        Check.due("free", 400, x.centre(3, 0, 3));
        Check.refuses("centre 6", Check.NUMBER, () -> x.centre(6, 0, 4));
        Check.refuses("centre -1", Check.NUMBER, () -> x.centre(-1, 0, 0));
        Check.refuses("year 3", Check.NUMBER, () -> x.centre(0, 3, 4));
        Check.refuses("year -1", Check.NUMBER, () -> x.centre(0, -1, -1));
        Check.refuses("what 4", Check.RANGE, () -> x.centre(0, 0, 4));
        Check.refuses("what -1", Check.RANGE, () -> x.centre(0, 0, -1));
    }

    private static void promise38() {
        ChitWright x = Offices.soft();
        int r = x.request(Offices.CLERK, 0);
        x.line(r, true, 3, 70);
        x.line(r, false, 2, 5);
        x.send(r);
        int[] sent = {ChitWright.SENT, 220, 220, 0, 1, ChitWright.NONE};
        for (int w = 0; w < 6; w++) {
            Check.due("what " + w, sent[w], x.requestOf(r, w));
        }
        Check.refuses("request 1", Check.NUMBER, () -> x.requestOf(1, 6));
        Check.refuses("request -1", Check.NUMBER, () -> x.requestOf(-1, 0));
        Check.refuses("what 6", Check.RANGE, () -> x.requestOf(r, 6));
        Check.refuses("what -1", Check.RANGE, () -> x.requestOf(r, -1));
    }

    private static void promise39() {
        ChitWright x = Offices.soft();
        int r = x.request(Offices.CLERK, 0);
        x.line(r, true, 3, 70);
        Check.due("a DRAFT", ChitWright.NONE, x.next(r));
        x.send(r);
        Check.due("the boss", Offices.BOSS, x.next(r));
        x.approve(r, Offices.BOSS);
        Check.due("APPROVED", ChitWright.NONE, x.next(r));
        x.order(r, 0);
        Check.due("ORDERED", ChitWright.NONE, x.next(r));
        Check.refuses("request 1", Check.NUMBER, () -> x.next(1));
        Check.refuses("request -1", Check.NUMBER, () -> x.next(-1));
    }

    private static void promise40() {
        ChitWright x = Offices.soft();
        int r = Offices.ordered(x, 0, false, 30, 70);
        x.receive(r, 0, 9);
        x.invoice(r, 0, 6, 70);
        x.invoice(r, 0, 3, 700);
        x.invoice(r, 0, 4, 70);
        int[] line = {30, 70, 9, 6, 7};
        for (int w = 0; w < 5; w++) {
            Check.due("what " + w, line[w], x.lineOf(r, 0, w));
        }
        Check.refuses("request 1", Check.NUMBER, () -> x.lineOf(1, 0, 5));
        Check.refuses("request -1", Check.NUMBER, () -> x.lineOf(-1, 0, 0));
        Check.refuses("line 1", Check.NUMBER, () -> x.lineOf(r, 1, 5));
        Check.refuses("line -1", Check.NUMBER, () -> x.lineOf(r, -1, 0));
        Check.refuses("what 5", Check.RANGE, () -> x.lineOf(r, 0, 5));
        Check.refuses("what -1", Check.RANGE, () -> x.lineOf(r, 0, -1));
    }

    private static void promise41() {
        ChitWright x = Offices.soft();
        x.supplier(0, 0, 0, 4, 0, 0);
        x.pass(3);
        int r = Offices.ordered(x, 0, true, 30, 70);
        x.invoice(r, 0, 1, 70);
        int[] booked = {ChitWright.BOOKED, 0, 70, 14, 70, 84, 7, 0};
        for (int w = 0; w < 8; w++) {
            Check.due("what " + w, booked[w], x.invoiceOf(0, w));
        }
        x.run(7, false);
        x.bounce(0);
        int[] stopped = {ChitWright.BOOKED, 0, 70, 14, 70, 84, 7, 1};
        for (int w = 0; w < 8; w++) {
            Check.due("stopped, what " + w, stopped[w], x.invoiceOf(0, w));
        }
        Check.refuses("invoice 1", Check.NUMBER, () -> x.invoiceOf(1, 8));
        Check.refuses("invoice -1", Check.NUMBER, () -> x.invoiceOf(-1, 0));
        Check.refuses("what 8", Check.RANGE, () -> x.invoiceOf(0, 8));
        Check.refuses("what -1", Check.RANGE, () -> x.invoiceOf(0, -1));
    }

    private static void promise42() {
        ChitWright x = Offices.soft();
        x.trip(1, 0, 0, 1, 0, 0, 10);
        x.advance(1, 100);
        Check.due("owed", 300, x.staff(1, 0));
        Check.due("advances", 100, x.staff(1, 1));
        Check.due("not the other one", 0, x.staff(0, 0));
        Check.refuses("person 2", Check.NUMBER, () -> x.staff(2, 2));
        Check.refuses("person -1", Check.NUMBER, () -> x.staff(-1, 0));
        Check.refuses("what 2", Check.RANGE, () -> x.staff(0, 2));
        Check.refuses("what -1", Check.RANGE, () -> x.staff(0, -1));
    }

    private static void promise45() {
        ChitWright x = Offices.soft();
        x.advance(0, 100);
        Check.due("BANK", -100, x.account(ChitWright.BANK));
        Check.refuses("account 9", Check.NUMBER, () -> x.account(9));
        Check.refuses("account -1", Check.NUMBER, () -> x.account(-1));
    }

    private static void closing() {
        ChitWright x = Offices.hard();
        x.budget(0, 0, 10001);
        x.budget(0, 1, 7);
        x.budget(1, 0, 100);
        x.carried(25);
        int r = Offices.approved(x, 0, false, 10, 100);
        x.edit(r, 0, 10);
        x.line(r, true, 10, 100);
        x.send(r);
        x.order(r, 0);
        x.receive(r, 0, 8);
        x.invoice(r, 0, 2, 100);
        x.run(0, false);
        x.invoice(r, 0, 1, 100);
        x.invoice(r, 0, 3, 900);
        x.invoice(r, 1, 4, 100);
        long cost = x.account(ChitWright.COST);
        x.pass(359);
        Check.due("not yet", 700, x.centre(0, 0, 2));
        x.pass(1);
        Check.due("5 of 100 received, not on booked invoices", 700 + 500, x.centre(0, 0, 2));
        Check.due("as much less", -500, x.centre(0, 1, 2));
        Check.due("nothing in the accounts", cost, x.account(ChitWright.COST));
        Check.due("nothing committed in the old year", 0, x.centre(0, 0, 1));
        Check.due("1300 in the new one", 1300, x.centre(0, 1, 1));
        Check.due("the old budget", 10001 - 1300 - 1875, x.centre(0, 0, 0));
        Check.due("the new budget", 7 + 1300 + 1875, x.centre(0, 1, 0));
        Check.due("its year", 1, x.requestOf(r, 3));
        Check.due("another centre", 25, x.centre(1, 1, 0));
        x.letGo(2, 0);
        Check.due("what is booked then is spent in the new year", -500 + 2700, x.centre(0, 1, 2));
        Check.due("the old year stays", 1200, x.centre(0, 0, 2));
    }

    private static void closingOfRequests() {
        ChitWright x = Offices.soft();
        x.carried(100);
        int draft = Offices.draft(x, 0, true, 1, 1);
        int sent = x.request(Offices.CLERK, 0);
        x.line(sent, true, 1, 10);
        x.send(sent);
        int approved = Offices.approved(x, 0, true, 1, 100);
        int ordered = Offices.ordered(x, 0, false, 1, 1000);
        int ended = Offices.ordered(x, 0, false, 1, 10000);
        x.receive(ordered, 0, 1);
        x.receive(ended, 0, 1);
        x.end(ended);
        int edited = Offices.approved(x, 0, true, 1, 1);
        x.edit(edited, 0, 1);
        int refused = x.request(Offices.CLERK, 0);
        x.line(refused, true, 1, 1);
        x.send(refused);
        x.refuse(refused, Offices.BOSS);
        x.pass(360);
        int[] requests = {draft, sent, approved, ordered, ended, edited, refused};
        int[] years = {-1, 1, 1, 1, 0, 0, 0};
        for (int i = 0; i < requests.length; i++) {
            Check.due("the year of " + i, years[i], x.requestOf(requests[i], 3));
        }
        Check.due("committed", 1110, x.centre(0, 1, 1));
        Check.due("only orders that are not ended", 1000, x.centre(0, 0, 2));
        Check.due("below 0 nothing is carried", -1110, x.centre(0, 0, 0));
        Check.due("with as much budget", 1110, x.centre(0, 1, 0));
        x.edit(approved, 0, 1);
        Check.due("free again in the new year", 1010, x.centre(0, 1, 1));
        x.send(edited);
        Check.due("sent in the new year", 1, x.requestOf(edited, 3));
    }

    private static void closingTwice() {
        ChitWright x = Offices.soft();
        x.carried(50);
        x.budget(0, 0, 10000);
        int r = Offices.ordered(x, 0, false, 10, 100);
        x.receive(r, 0, 4);
        x.pass(360);
        Check.due("carried", 1000 + 4300, x.centre(0, 1, 0));
        x.pass(360);
        Check.due("the first year", 400, x.centre(0, 0, 2));
        Check.due("back, and again", 0, x.centre(0, 1, 2));
        Check.due("back", -400, x.centre(0, 2, 2));
        Check.due("committed", 1000, x.centre(0, 2, 1));
        Check.due("half of 4300", 1000 + 2150, x.centre(0, 2, 0));
        Check.due("the first budget", 10000 - 1000 - 4300, x.centre(0, 0, 0));
        Check.due("its year", 2, x.requestOf(r, 3));
        x.invoice(r, 0, 4, 100);
        Check.due("booked", 0, x.centre(0, 2, 2));
        x.pass(359);
        Check.due("no more closing", 600, x.centre(0, 2, 1));
    }

    private static void passingOver() {
        ChitWright x = Offices.soft();
        x.carried(100);
        x.budget(0, 0, 100);
        x.budget(1, 0, 1);
        x.pass(359);
        x.pass(360);
        Check.due("closed on the way", 100, x.centre(0, 1, 0));
        Check.due("a cent too", 1, x.centre(1, 1, 0));
        Check.due("not the second one", 0, x.centre(0, 2, 0));
        x.pass(360);
        Check.due("the second one", 100, x.centre(0, 2, 0));
        Check.due("the first one only once", 0, x.centre(0, 0, 0));
    }
}
