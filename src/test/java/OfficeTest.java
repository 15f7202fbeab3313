/** Promises 1 to 12: what is told of the office. */
final class OfficeTest {
    private static final int NONE = ChitWright.NONE;

    public static void main(String[] args) {
        promise1();
        promise2();
        promise3();
        promise4();
        promise5();
        promise6();
        promise7();
        promise8();
        promise9();
        promise10();
        promise11();
        promise12();
        Check.close("OfficeTest");
    }

    private static void promise1() {
        ChitWright x = new ChitWright();
        Check.due("day", 0, x.day());
        for (int i = 0; i < 9; i++) {
            Check.due("account", 0, x.account(i));
        }
        for (int c = 0; c < 6; c++) {
            for (int y = 0; y < 3; y++) {
                for (int w = 0; w < 4; w++) {
                    Check.due("centre", 0, x.centre(c, y, w));
                }
            }
            Check.due("hard at first", false, x.soft(c, false));
        }
        Check.refuses("staff(0, 0)", Check.NUMBER, () -> x.staff(0, 0));
        Check.refuses("requestOf(0, 0)", Check.NUMBER, () -> x.requestOf(0, 0));
        Check.refuses("invoiceOf(0, 0)", Check.NUMBER, () -> x.invoiceOf(0, 0));
        Check.refuses("tripCost(0)", Check.NUMBER, () -> x.tripCost(0));
        Check.refuses("isTold(0)", Check.NUMBER, () -> x.isTold(0));
        Check.due("nothing to pay", 0, x.run(2000, true));
        Check.due("no card to pay", 0, x.payCard());
    }

    private static void promise2() {
        ChitWright x = new ChitWright();
        Check.refuses("boss 0 of nobody", Check.NUMBER, () -> x.person(0, 5));
        Check.due("first", 0, x.person(NONE, 0));
        Check.due("second", 1, x.person(0, 10000000));
        Check.refuses("boss -2", Check.NUMBER, () -> x.person(-2, 5));
        Check.refuses("boss 2, limit out of range", Check.NUMBER, () -> x.person(2, -1));
        Check.refuses("limit -1", Check.RANGE, () -> x.person(0, -1));
        Check.refuses("limit 10000001", Check.RANGE, () -> x.person(0, 10000001));
        for (int i = 2; i < 12; i++) {
            Check.due("person", i, x.person(i - 1, i));
        }
        Check.refuses("a 13th", Check.STATE, () -> x.person(0, 1));
        Check.refuses("a 13th, limit out of range", Check.RANGE, () -> x.person(0, -1));
        Check.refuses("a 13th, boss 12", Check.NUMBER, () -> x.person(12, 1));
        x.soft(0, true);
        int request = x.request(11, 0);
        x.line(request, true, 1, 11);
        Check.due("the limits tell the chain, 10 to 1", 10, x.send(request));
    }

    private static void promise3() {
        ChitWright x = Offices.soft();
        x.person(Offices.BOSS, 0);
        int request = x.request(Offices.CLERK, 0);
        x.line(request, true, 1, 1);
        x.send(request);
        Check.due("there", 0, x.next(request));
        x.absent(0, 1, 2);
        Check.due("absent", 2, x.next(request));
        x.pass(1);
        Check.due("there again", 0, x.next(request));
        x.absent(0, 1079, 2);
        Check.due("absent for long", 2, x.next(request));
        x.absent(0, 0, 1);
        Check.due("in place of before", 0, x.next(request));
        x.absent(0, 2, 2);
        Check.refuses("person 3", Check.NUMBER, () -> x.absent(3, 5, 0));
        Check.refuses("person -1", Check.NUMBER, () -> x.absent(-1, 5, 0));
        Check.refuses("substitute 3", Check.NUMBER, () -> x.absent(0, -1, 3));
        Check.refuses("substitute NONE", Check.NUMBER, () -> x.absent(0, 5, NONE));
        Check.refuses("until -1", Check.RANGE, () -> x.absent(0, -1, 2));
        Check.refuses("until 1080", Check.RANGE, () -> x.absent(0, 1080, 2));
        Check.refuses("the same", Check.RANGE, () -> x.absent(0, 5, 0));
        Check.due("absent as before", 2, x.next(request));
    }

    private static void promise4() {
        ChitWright x = new ChitWright();
        Check.refuses("no person", Check.NUMBER, () -> x.controller(0));
        x.person(NONE, 0);
        x.person(NONE, 0);
        x.person(NONE, 0);
        Check.due("the first one is", 0, x.controller(2));
        Check.due("then 2", 2, x.controller(1));
        Check.refuses("person 3", Check.NUMBER, () -> x.controller(3));
        Check.refuses("person -1", Check.NUMBER, () -> x.controller(-1));
        Check.due("still 1", 1, x.controller(1));
        Check.due("1 again", 1, x.controller(0));
    }

    private static void promise5() {
        ChitWright x = Offices.hard();
        Check.due("first", 0, x.budget(5, 2, 100000000));
        Check.due("second", 100000000, x.budget(5, 2, 0));
        Check.due("third", 0, x.budget(5, 2, 7));
        Check.due("told", 7, x.centre(5, 2, 0));
        Check.due("another year", 0, x.centre(5, 1, 0));
        Check.due("another centre", 0, x.centre(4, 2, 0));
        Check.refuses("centre 6", Check.NUMBER, () -> x.budget(6, 0, -1));
        Check.refuses("centre -1", Check.NUMBER, () -> x.budget(-1, 0, 1));
        Check.refuses("year 3", Check.NUMBER, () -> x.budget(0, 3, -1));
        Check.refuses("year -1", Check.NUMBER, () -> x.budget(0, -1, 1));
        Check.refuses("amount -1", Check.RANGE, () -> x.budget(0, 0, -1));
        Check.refuses("amount 100000001", Check.RANGE, () -> x.budget(0, 0, 100000001));
        x.budget(1, 0, 500);
        Offices.approved(x, 1, true, 1, 400);
        x.budget(1, 0, 300);
        Check.due("free may be below 0", -100, x.centre(1, 0, 3));
    }

    private static void promise6() {
        ChitWright x = Offices.hard();
        x.budget(0, 1, 1000);
        x.budget(1, 1, 50);
        Check.due("all of it", 1050, x.transfer(0, 1, 1, 1000));
        Check.due("from", 0, x.centre(0, 1, 0));
        Check.due("to", 1050, x.centre(1, 1, 0));
        Check.refuses("one more", Check.STATE, () -> x.transfer(1, 0, 1, 1051));
        Check.refuses("another year", Check.STATE, () -> x.transfer(1, 0, 0, 1));
        Check.refuses("from 6", Check.NUMBER, () -> x.transfer(6, 0, 1, 1));
        Check.refuses("from -1", Check.NUMBER, () -> x.transfer(-1, 0, 1, 1));
        Check.refuses("to 6", Check.NUMBER, () -> x.transfer(1, 6, 1, 0));
        Check.refuses("to -1", Check.NUMBER, () -> x.transfer(1, -1, 1, 0));
        Check.refuses("year 3", Check.NUMBER, () -> x.transfer(1, 1, 3, 1));
        Check.refuses("year -1", Check.NUMBER, () -> x.transfer(1, 1, -1, 1));
        Check.refuses("the same", Check.RANGE, () -> x.transfer(1, 1, 1, 1));
        Check.refuses("amount 0", Check.RANGE, () -> x.transfer(1, 0, 1, 0));
        Check.refuses("amount 100000001", Check.RANGE, () -> x.transfer(1, 0, 1, 100000001));
        x.soft(1, true);
        Check.refuses("soft ones too", Check.STATE, () -> x.transfer(1, 0, 1, 1051));
        x.budget(2, 0, 1000);
        Offices.approved(x, 2, true, 1, 400);
        Check.refuses("what is committed is not free", Check.STATE, () -> x.transfer(2, 3, 0, 601));
        Check.due("what is free", 600, x.transfer(2, 3, 0, 600));
        Check.due("free in to, less its commitment", 100, x.transfer(3, 2, 0, 100));
        x.budget(4, 0, 100000000);
        Check.due("the most", 100000500, x.transfer(4, 3, 0, 100000000));
    }

    private static void promise7() {
        ChitWright x = Offices.hard();
        int request = Offices.draft(x, 5, true, 1, 1);
        Check.refuses("hard", Check.STATE, () -> x.send(request));
        Check.due("was hard", false, x.soft(5, true));
        Check.due("is soft", true, x.soft(5, true));
        Check.due("another one", false, x.soft(0, false));
        x.send(request);
        Check.due("free below 0", -1, x.centre(5, 0, 3));
        Check.due("was soft", true, x.soft(5, false));
        int other = Offices.draft(x, 5, true, 1, 1);
        Check.refuses("hard again", Check.STATE, () -> x.send(other));
        Check.refuses("centre 6", Check.NUMBER, () -> x.soft(6, true));
        Check.refuses("centre -1", Check.NUMBER, () -> x.soft(-1, true));
    }

    private static void promise8() {
        ChitWright x = Offices.hard();
        Check.due("0 at first", 0, x.carried(100));
        Check.due("all", 100, x.carried(33));
        Check.refuses("-1", Check.RANGE, () -> x.carried(-1));
        Check.refuses("101", Check.RANGE, () -> x.carried(101));
        Check.due("33", 33, x.carried(33));
        x.budget(0, 0, 101);
        x.pass(360);
        Check.due("rounded down", 33, x.centre(0, 1, 0));
        Check.due("from the old year", 68, x.centre(0, 0, 0));
        Check.due("back to none", 33, x.carried(0));
        x.pass(360);
        Check.due("nothing is carried", 0, x.centre(0, 2, 0));
    }

    private static void promise9() {
        ChitWright x = Offices.soft();
        x.supplier(0, 2, 1, 90, 10, 30);
        x.rate(1, 2000);
        int request = Offices.ordered(x, 0, true, 30, 1000);
        x.invoice(request, 0, 10, 500);
        Check.due("net by the rate", 10000, x.invoiceOf(0, 2));
        Check.due("owed abroad", 10000, x.invoiceOf(0, 5));
        Check.due("terms", 90, x.invoiceOf(0, 6));
        x.supplier(0, 0, 0, 0, 0, 0);
        Check.due("what is owed stays", 10000, x.invoiceOf(0, 5));
        Check.due("when it is due stays", 90, x.invoiceOf(0, 6));
        Check.due("not due", 0, x.run(89, true));
        Check.due("due", 1, x.run(90, false));
        Check.due("the money of now, no discount, the country of then", -5000, x.account(ChitWright.BANK));
        Check.due("the difference", -5000, x.account(ChitWright.RATES));
        x.invoice(request, 0, 1, 1000);
        Check.due("owed at home", 1200, x.invoiceOf(1, 5));
        x.supplier(0, 1, 2, 5, 10, 0);
        Check.due("by the discount of now", 1, x.run(0, true));
        Check.due("at home when it was booked", -120, x.account(ChitWright.DISCOUNTS));
        wrongSuppliers(x);
        x.invoice(request, 0, 1, 1000);
        Check.due("country 1 as before", 1000, x.invoiceOf(2, 5));
        Check.due("terms 5 as before", 5, x.invoiceOf(2, 6));
    }

    private static void wrongSuppliers(ChitWright x) {
        Check.refuses("supplier 6", Check.NUMBER, () -> x.supplier(6, 0, 0, -1, 0, 0));
        Check.refuses("supplier -1", Check.NUMBER, () -> x.supplier(-1, 0, 0, 0, 0, 0));
        Check.refuses("country 3", Check.NUMBER, () -> x.supplier(0, 3, 0, 0, 11, 0));
        Check.refuses("country -1", Check.NUMBER, () -> x.supplier(0, -1, 0, 0, 0, 0));
        Check.refuses("money 3", Check.NUMBER, () -> x.supplier(0, 0, 3, 0, 0, 31));
        Check.refuses("money -1", Check.NUMBER, () -> x.supplier(0, 0, -1, 0, 0, 0));
        Check.refuses("terms 91", Check.RANGE, () -> x.supplier(0, 0, 0, 91, 0, 0));
        Check.refuses("terms -1", Check.RANGE, () -> x.supplier(0, 0, 0, -1, 0, 0));
        Check.refuses("discount 11", Check.RANGE, () -> x.supplier(0, 0, 0, 0, 11, 0));
        Check.refuses("discount -1", Check.RANGE, () -> x.supplier(0, 0, 0, 0, -1, 0));
        Check.refuses("days 31", Check.RANGE, () -> x.supplier(0, 0, 0, 0, 0, 31));
        Check.refuses("days -1", Check.RANGE, () -> x.supplier(0, 0, 0, 0, 0, -1));
    }

    private static void promise10() {
        ChitWright x = Offices.soft();
        Check.due("1000 at first", 1000, x.rate(1, 100));
        Check.due("2 has its own", 1000, x.rate(2, 10000));
        Check.refuses("money 0", Check.NUMBER, () -> x.rate(0, 1000));
        Check.refuses("money 3", Check.NUMBER, () -> x.rate(3, 1));
        Check.refuses("money -1", Check.NUMBER, () -> x.rate(-1, 1));
        Check.refuses("money 0, rate 1", Check.NUMBER, () -> x.rate(0, 1));
        Check.refuses("rate 99", Check.RANGE, () -> x.rate(1, 99));
        Check.refuses("rate 10001", Check.RANGE, () -> x.rate(2, 10001));
        x.supplier(0, 1, 1, 0, 0, 0);
        x.supplier(1, 1, 2, 0, 0, 0);
        int one = Offices.ordered(x, 0, true, 99, 100000);
        int two = Offices.approved(x, 0, true, 99, 100000);
        x.order(two, 1);
        x.invoice(one, 0, 1, 999);
        x.invoice(two, 0, 99, 100000);
        Check.due("rounded down", 99, x.invoiceOf(0, 2));
        Check.due("the most", 99000000, x.invoiceOf(1, 2));
        Check.due("was 100", 100, x.rate(1, 5000));
        Check.due("the net is of the day when it came", 99, x.invoiceOf(0, 2));
        Check.due("was 10000", 10000, x.rate(2, 10000));
    }

    private static void promise11() {
        ChitWright x = Offices.soft();
        int request = Offices.ordered(x, 0, true, 99, 1000);
        x.invoice(request, 0, 1, 999);
        Check.due("20 percent at first", 199, x.invoiceOf(0, 3));
        Check.due("all comes back at first", 999, x.invoiceOf(0, 4));
        x.taxes(30, 50);
        x.invoice(request, 0, 1, 999);
        Check.due("30 percent", 299, x.invoiceOf(1, 3));
        Check.due("149 come back", 999 + 299 - 149, x.invoiceOf(1, 4));
        Check.due("what was booked stays", 199, x.invoiceOf(0, 3));
        x.taxes(10, 0);
        x.invoice(request, 0, 1, 999);
        Check.due("nothing comes back", 999 + 99, x.invoiceOf(2, 4));
        Check.refuses("-1", Check.RANGE, () -> x.taxes(-1, 100));
        Check.refuses("31", Check.RANGE, () -> x.taxes(31, 100));
        Check.refuses("back -1", Check.RANGE, () -> x.taxes(20, -1));
        Check.refuses("back 101", Check.RANGE, () -> x.taxes(20, 101));
        x.invoice(request, 0, 1, 999);
        Check.due("as before", 999 + 99, x.invoiceOf(3, 4));
        x.taxes(0, 100);
        x.invoice(request, 0, 1, 999);
        Check.due("no tax", 0, x.invoiceOf(4, 3));
    }

    private static void promise12() {
        ChitWright x = Offices.soft();
        Check.refuses("0", Check.RANGE, () -> x.pass(0));
        Check.refuses("-1", Check.RANGE, () -> x.pass(-1));
        Check.refuses("361", Check.RANGE, () -> x.pass(361));
        Check.due("1", 1, x.pass(1));
        Check.due("361", 361, x.pass(360));
        Check.due("720", 720, x.pass(359));
        Check.refuses("1080", Check.STATE, () -> x.pass(360));
        Check.refuses("out of range", Check.RANGE, () -> x.pass(1000));
        Check.due("1079", 1079, x.pass(359));
        Check.refuses("one more", Check.STATE, () -> x.pass(1));
        Check.due("day", 1079, x.day());
    }
}
