/** Promises 25 to 27: payments. */
final class PaymentsTest {
    private static final int BANK = ChitWright.BANK;
    private static final int OWED = ChitWright.OWED;
    private static final int RATES = ChitWright.RATES;
    private static final int DISCOUNTS = ChitWright.DISCOUNTS;

    public static void main(String[] args) {
        promise25();
        dueDays();
        discountDays();
        moneys();
        promise26();
        promise27();
        Check.close("PaymentsTest");
    }

    private static void promise25() {
        ChitWright x = Offices.soft();
        int r = Offices.ordered(x, 0, true, 10, 100);
        x.invoice(r, 0, 1, 100);
        x.invoice(r, 0, 1, 300);
        x.invoice(r, 0, 2, 100);
        Check.refuses("day -1", Check.RANGE, () -> x.run(-1, true));
        Check.refuses("day 2001", Check.RANGE, () -> x.run(2001, true));
        Check.due("two are booked", 2, x.run(0, false));
        Check.due("PAID", ChitWright.PAID, x.invoiceOf(0, 0));
        Check.due("owed no more", 0, x.invoiceOf(0, 5));
        Check.due("the net stays", 100, x.invoiceOf(0, 2));
        Check.due("the tax stays", 20, x.invoiceOf(0, 3));
        Check.due("the day stays", 0, x.invoiceOf(0, 6));
        Check.due("HELD", ChitWright.HELD, x.invoiceOf(1, 0));
        Check.due("BANK", -360, x.account(BANK));
        Check.due("OWED", 0, x.account(OWED));
        Check.due("none is left", 0, x.run(2000, true));
    }

    private static void dueDays() {
        ChitWright x = Offices.soft();
        int r = Offices.ordered(x, 0, true, 10, 100);
        x.supplier(0, 0, 0, 90, 0, 30);
        x.pass(360);
        x.pass(360);
        x.pass(359);
        x.invoice(r, 0, 1, 100);
        x.supplier(0, 0, 0, 89, 0, 30);
        x.invoice(r, 0, 1, 100);
        Check.due("1169", 1169, x.invoiceOf(0, 6));
        Check.due("none has a discount above 0", 0, x.run(1167, true));
        Check.due("the one that is due", 1, x.run(1168, true));
        Check.due("the later one", ChitWright.BOOKED, x.invoiceOf(0, 0));
        Check.due("then", 1, x.run(1169, false));
    }

    private static void discountDays() {
        ChitWright x = Offices.soft();
        x.supplier(0, 0, 0, 50, 3, 10);
        x.pass(5);
        int r = Offices.ordered(x, 0, true, 10, 1000);
        for (int i = 0; i < 4; i++) {
            x.invoice(r, 0, 1, 999);
        }
        Check.due("not due, no discounts taken", 0, x.run(54, false));
        Check.due("all, discounts taken", 4, x.run(0, true));
        Check.due("1198 less 35", -4 * 1163, x.account(BANK));
        Check.due("DISCOUNTS", -4 * 35, x.account(DISCOUNTS));
        x.bounce(0);
        x.bounce(1);
        x.bounce(2);
        Check.due("three discounts are returned", -35, x.account(DISCOUNTS));
        x.goOn(0);
        x.pass(10);
        Check.due("due, on the last day", 1, x.run(55, false));
        Check.due("a discount though none are taken", -2 * 35, x.account(DISCOUNTS));
        x.goOn(1);
        Check.due("not due, on the last day", 1, x.run(54, true));
        x.goOn(2);
        x.pass(1);
        Check.due("the days are over", 0, x.run(54, true));
        Check.due("due", 1, x.run(55, true));
        Check.due("no discount", -3 * 35, x.account(DISCOUNTS));
        Check.due("all of it", -3 * 1163 - 1198, x.account(BANK));
        x.supplier(0, 0, 0, 50, 10, 0);
        x.invoice(r, 0, 1, 1000);
        Check.due("0 days are today", 1, x.run(0, true));
        Check.due("10 percent", -3 * 35 - 120, x.account(DISCOUNTS));
        x.supplier(0, 0, 0, 50, 1, 0);
        x.invoice(r, 0, 1, 1000);
        Check.due("1 percent is above 0", 1, x.run(0, true));
    }

    private static void moneys() {
        ChitWright x = Offices.soft();
        x.supplier(0, 0, 1, 5, 2, 30);
        x.rate(1, 1234);
        x.taxes(19, 100);
        int r = Offices.ordered(x, 0, true, 99, 100);
        x.invoice(r, 0, 7, 83);
        Check.due("581 by 1234", 716, x.invoiceOf(0, 2));
        Check.due("716 and 136", 852, x.invoiceOf(0, 5));
        x.rate(1, 1333);
        x.taxes(30, 0);
        x.run(0, true);
        Check.due("581 and 110, by 1333: 921, less 18", -903, x.account(BANK));
        Check.due("DISCOUNTS", -18, x.account(DISCOUNTS));
        Check.due("RATES", 921 - 852, x.account(RATES));
        Check.due("OWED", 0, x.account(OWED));
        x.bounce(0);
        x.goOn(0);
        Check.due("what was paid, and the discount, is owed", 921, x.invoiceOf(0, 5));
        x.rate(1, 1000);
        x.run(0, true);
        Check.due("691 less 13", -678, x.account(BANK));
        Check.due("RATES again", 921 - 852 + 691 - 921, x.account(RATES));
        Check.due("OWED again", 0, x.account(OWED));
        x.supplier(1, 1, 2, 0, 0, 0);
        int abroad = Offices.approved(x, 0, true, 10, 1000);
        x.order(abroad, 1);
        x.invoice(abroad, 0, 1, 1000);
        x.rate(2, 900);
        x.run(0, false);
        Check.due("no tax abroad", -678 - 900, x.account(BANK));
        Check.due("a loss or a gain", 921 - 852 + 691 - 921 - 100, x.account(RATES));
    }

    private static void promise26() {
        ChitWright x = Offices.soft();
        x.supplier(0, 0, 0, 3, 10, 3);
        int r = Offices.ordered(x, 0, true, 10, 100);
        x.invoice(r, 0, 2, 100);
        Check.refuses("invoice 1", Check.NUMBER, () -> x.bounce(1));
        Check.refuses("invoice -1", Check.NUMBER, () -> x.bounce(-1));
        Check.refuses("not PAID", Check.STATE, () -> x.bounce(0));
        x.run(3, true);
        Check.due("what was paid", 216, x.bounce(0));
        Check.due("BOOKED", ChitWright.BOOKED, x.invoiceOf(0, 0));
        Check.due("owed", 240, x.invoiceOf(0, 5));
        Check.due("stopped", 1, x.invoiceOf(0, 7));
        Check.due("BANK", 0, x.account(BANK));
        Check.due("DISCOUNTS", 0, x.account(DISCOUNTS));
        Check.due("OWED", -240, x.account(OWED));
        Check.due("its pieces stay booked", 2, x.lineOf(r, 0, 3));
        Check.due("due as before", 3, x.invoiceOf(0, 6));
        Check.refuses("it was returned", Check.STATE, () -> x.bounce(0));
        x.invoice(r, 0, 1, 200);
        Check.refuses("HELD", Check.STATE, () -> x.bounce(1));
    }

    private static void promise27() {
        ChitWright x = Offices.soft();
        int r = Offices.ordered(x, 0, true, 10, 100);
        x.invoice(r, 0, 2, 100);
        Check.refuses("invoice 1", Check.NUMBER, () -> x.goOn(1));
        Check.refuses("invoice -1", Check.NUMBER, () -> x.goOn(-1));
        Check.refuses("BOOKED", Check.STATE, () -> x.goOn(0));
        x.run(0, false);
        Check.refuses("PAID", Check.STATE, () -> x.goOn(0));
        x.bounce(0);
        Check.due("it is stopped", 0, x.run(2000, true));
        x.goOn(0);
        Check.due("no more", 0, x.invoiceOf(0, 7));
        Check.refuses("not twice", Check.STATE, () -> x.goOn(0));
        Check.due("paid again", 1, x.run(0, false));
        Check.due("returned again", 240, x.bounce(0));
        Check.due("stopped again", 1, x.invoiceOf(0, 7));
    }
}
