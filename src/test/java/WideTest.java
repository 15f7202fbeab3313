/** Wrap-around in ints: where the document asks for it, and where amounts go beyond it. */
final class WideTest {
    private static final int MIN = Integer.MIN_VALUE;
    private static final int MAX = Integer.MAX_VALUE;

    public static void main(String[] args) {
        samples();
        budgets();
        carriedOver();
        totals();
        limits();
        commitments();
        largestInvoice();
        manyLargeInvoices();
        largePayments();
        staff();
        Check.close("WideTest");
    }

    /** "(1103515245 times (100 k and n, together) and the seed, together, in ints, shifted right by 16 without sign, modulo 100)" */
    private static void samples() {
        ChitWright x = withInvoicesTripsAndEntries();
        sampled(x, 0, 0, 0, 0);
        sampled(x, 0, 1, 0, 38);
        sampled(x, 0, 2, 0, 76);
        sampled(x, 0, 59, 0, 20);
        sampled(x, 1, 0, 0, 30);
        sampled(x, 1, 29, 0, 53);
        sampled(x, 2, 0, 0, 25);
        sampled(x, 2, 39, 0, 59);
        sampled(x, 0, 0, MAX, 67);
        sampled(x, 0, 0, MIN, 68);
        sampled(x, 0, 0, -1, 35);
        sampled(x, 0, 1, MAX, 6);
        sampled(x, 1, 0, MIN, 62);
        sampled(x, 2, 39, MAX, 27);
        sampled(x, 2, 39, -1, 59);
        sampled(x, 0, 0, 65535, 0);
        sampled(x, 0, 0, 65536, 1);
        sampled(x, 0, 0, 6553599, 99);
        sampled(x, 0, 0, 6553600, 0);
    }

    /** It is below the percents that are one more, and not below its own. */
    private static void sampled(ChitWright x, int kind, int number, int seed, int remainder) {
        String what = "kind " + kind + ", number " + number + ", seed " + seed + ", remainder " + remainder;
        x.sample(seed, remainder);
        Check.due(what, false, x.isSampled(kind, number));
        x.sample(seed, remainder + 1);
        Check.due(what + ", one percent more", true, x.isSampled(kind, number));
    }

    private static ChitWright withInvoicesTripsAndEntries() {
        ChitWright x = Offices.soft();
        Offices.ordered(x, 0, true, 60, 1);
        for (int i = 0; i < 60; i++) {
            x.invoice(0, 0, 1, 1);
        }
        for (int i = 0; i < 30; i++) {
            x.trip(0, 0, 0, 1, 0, 0, 0);
        }
        for (int i = 0; i < 40; i++) {
            x.card(0, 1);
        }
        return x;
    }

    /** The centre 1 has 2200000000 in the year 0 by transfers. */
    private static ChitWright wideBudget() {
        ChitWright x = Offices.hard();
        for (int i = 1; i <= 22; i++) {
            x.budget(0, 0, 100000000);
            Check.due("free then", 100000000L * i, x.transfer(0, 1, 0, 100000000));
        }
        return x;
    }

    private static void budgets() {
        ChitWright x = wideBudget();
        Check.due("its budget", 2200000000L, x.centre(1, 0, 0));
        Check.due("what is free", 2200000000L, x.centre(1, 0, 3));
        int r = x.request(Offices.BOSS, 1);
        x.line(r, true, 99, 100000);
        x.send(r);
        Check.due("enough is free", 2190100000L, x.centre(1, 0, 3));
        Check.due("one of many", 100000000, x.transfer(1, 0, 0, 100000000));
        Check.due("what it was", 2100000000L, x.budget(1, 0, 0));
        Check.due("below 0", -9900000, x.centre(1, 0, 3));
    }

    private static void carriedOver() {
        int[] percents = {0, 1, 30, 99, 100};
        for (int some : percents) {
            ChitWright x = wideBudget();
            x.carried(some);
            x.pass(360);
            Check.due(some + " percents are carried", 22000000L * some, x.centre(1, 1, 0));
            Check.due(some + " percents go", 22000000L * (100 - some), x.centre(1, 0, 0));
        }
    }

    private static int large(ChitWright x, boolean isService, int quantity) {
        int r = x.request(Offices.BOSS, 0);
        for (int i = 0; i < 4; i++) {
            x.line(r, isService, quantity, 100000);
        }
        x.send(r);
        x.order(r, 0);
        return r;
    }

    private static void totals() {
        ChitWright x = Offices.soft();
        int most = large(x, true, 99);
        Check.due("the most", 39600000, x.requestOf(most, 1));
        Check.due("all of it is committed", 39600000, x.requestOf(most, 2));
        Check.due("one piece less", 0, x.change(most, 3, 98));
        Check.due("is within 105 percent of it", 39500000, x.requestOf(most, 2));
        int r = large(x, false, 80);
        Check.refuses("33700000 of 33600000", Check.STATE, () -> x.change(r, 0, 97));
        x.change(r, 0, 96);
        Check.due("33600000", 33600000, x.requestOf(r, 1));
    }

    /** The largest limit is below the largest total, so that the chain goes on to its last one. */
    private static void limits() {
        ChitWright x = new ChitWright();
        x.person(ChitWright.NONE, 10000000);
        x.person(0, 10000000);
        x.person(1, 10000000);
        x.soft(0, true);
        x.controller(2);
        int most = x.request(2, 0);
        for (int i = 0; i < 4; i++) {
            x.line(most, true, 99, 100000);
        }
        Check.due("both bosses", 2, x.send(most));
        int enough = x.request(2, 0);
        x.line(enough, true, 99, 100000);
        x.line(enough, true, 1, 100000);
        Check.due("10000000 are within the limit", 1, x.send(enough));
        int above = x.request(2, 0);
        x.line(above, true, 99, 100000);
        x.line(above, true, 1, 100000);
        x.line(above, true, 1, 1);
        Check.due("10000001 are not", 2, x.send(above));
    }

    private static void commitments() {
        ChitWright x = Offices.hard();
        x.soft(0, true);
        x.carried(100);
        for (int i = 0; i < 40; i++) {
            int r = large(x, false, 99);
            for (int line = 0; line < 4; line++) {
                x.receive(r, line, 99);
            }
        }
        Check.due("the most", 1584000000, x.centre(0, 0, 1));
        Check.due("free", -1584000000, x.centre(0, 0, 3));
        x.pass(360);
        Check.due("all was received", 1584000000, x.centre(0, 0, 2));
        Check.due("it comes back", -1584000000, x.centre(0, 1, 2));
        Check.due("all is committed", 1584000000, x.centre(0, 1, 1));
        Check.due("with as much budget", 1584000000, x.centre(0, 1, 0));
        Check.due("without it", -1584000000, x.centre(0, 0, 0));
        Check.due("free, twice as much below 0", -3168000000L, x.centre(0, 0, 3));
        Check.due("free, with what comes back", 1584000000, x.centre(0, 1, 3));
    }

    private static ChitWright dear(int country, int percents, int back) {
        ChitWright x = Offices.soft();
        x.supplier(0, country, 2, 0, 0, 0);
        x.rate(2, 10000);
        x.taxes(percents, back);
        return x;
    }

    private static void largestInvoice() {
        int[] backs = {0, 1, 50, 99, 100};
        for (int back : backs) {
            ChitWright x = dear(0, 30, back);
            large(x, true, 99);
            Check.due("the largest", 0, x.invoice(0, 0, 99, 100000));
            Check.due("its net", 99000000, x.invoiceOf(0, 2));
            Check.due("is too dear", 2, x.invoiceOf(0, 1));
            Check.due("is booked", true, x.letGo(0, 0));
            Check.due("its tax", 29700000, x.invoiceOf(0, 3));
            Check.due("its cost", 128700000 - 297000 * back, x.invoiceOf(0, 4));
            Check.due("owed", 128700000, x.invoiceOf(0, 5));
            Check.due("TAX", 297000 * back, x.account(ChitWright.TAX));
        }
    }

    private static ChitWright with60LargeInvoices(int country) {
        ChitWright x = dear(country, 30, 0);
        for (int r = 0; r < 15; r++) {
            large(x, true, 99);
            for (int line = 0; line < 4; line++) {
                x.letGo(x.invoice(r, line, 99, 100000), 0);
            }
        }
        return x;
    }

    private static void manyLargeInvoices() {
        ChitWright x = with60LargeInvoices(0);
        Check.due("spent", 7722000000L, x.centre(0, 0, 2));
        Check.due("free", -7722000000L, x.centre(0, 0, 3));
        Check.due("nothing is committed any more", 0, x.centre(0, 0, 1));
        Check.due("COST", 7722000000L, x.account(ChitWright.COST));
        Check.due("OWED", -7722000000L, x.account(ChitWright.OWED));
        ChitWright abroad = with60LargeInvoices(1);
        Check.due("COST abroad", 7722000000L, abroad.account(ChitWright.COST));
        Check.due("OWED abroad", -5940000000L, abroad.account(ChitWright.OWED));
        Check.due("TAX abroad", -1782000000, abroad.account(ChitWright.TAX));
    }

    private static void largePayments() {
        ChitWright x = with60LargeInvoices(0);
        x.supplier(0, 0, 2, 0, 10, 0);
        Check.due("all", 60, x.run(0, false));
        Check.due("BANK", -6949800000L, x.account(ChitWright.BANK));
        Check.due("DISCOUNTS", -772200000, x.account(ChitWright.DISCOUNTS));
        Check.due("RATES", 0, x.account(ChitWright.RATES));
        Check.due("OWED", 0, x.account(ChitWright.OWED));
        Check.due("the bank returns one", 115830000, x.bounce(59));
        Check.due("it is owed", 128700000, x.invoiceOf(59, 5));
        ChitWright y = with60LargeInvoices(0);
        y.rate(2, 100);
        y.run(0, false);
        Check.due("BANK by a low rate", -77220000, y.account(ChitWright.BANK));
        Check.due("RATES by a low rate", 77220000 - 7722000000L, y.account(ChitWright.RATES));
    }

    private static void staff() {
        ChitWright x = Offices.soft();
        x.place(0, 50000);
        for (int i = 0; i < 30; i++) {
            x.trip(1, 0, 0, 30, 0, 0, 5000);
        }
        Check.due("the most for trips", 48000000, x.staff(1, 0));
        for (int i = 1; i <= 400; i++) {
            Check.due("advances then", 1000000L * i, x.advance(1, 1000000));
        }
        Check.due("they pay", -352000000, x.settle(1));
        Check.due("BANK", -48000000, x.account(ChitWright.BANK));
    }
}
