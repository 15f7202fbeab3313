/** The sentences of "Orders", "Invoices" and "Payments" that name an edge: the last case on each side of it. */
final class EdgesOfOrdersTest {
    private static final int HELD = ChitWright.HELD;
    private static final int BOOKED = ChitWright.BOOKED;
    private static final int BANK = ChitWright.BANK;
    private static final int OWED = ChitWright.OWED;
    private static final int TAX = ChitWright.TAX;
    private static final int COST = ChitWright.COST;
    private static final int RATES = ChitWright.RATES;
    private static final int DISCOUNTS = ChitWright.DISCOUNTS;

    public static void main(String[] args) {
        receivedInAll();
        givenBack();
        totalOfAllLines();
        lessAsFarAsThereIsSome();
        ending();
        heldForPieces();
        heldForPiecesOfServices();
        heldForPrice();
        netByTheRate();
        lookedAtByRisingNumbers();
        lookedAtWhenTheQuantityChanges();
        letGoForGood();
        taxOfHome();
        taxFromAbroad();
        whenItIsBooked();
        takenAsFarAsThereIsSome();
        dueByADay();
        discountAboveZero();
        lastDayOfTheDiscount();
        discountWithoutTakingIt();
        discountRoundedDown();
        paidByTheRateOfNow();
        taxByThePercentsOfThen();
        stopped();
        owedAfterAReturn();
        Check.close("EdgesOfOrdersTest");
    }

    /** An order of so many goods for 100 each, of the supplier 0, in a soft centre. */
    private static ChitWright goods(int quantity) {
        ChitWright x = Offices.soft();
        Offices.ordered(x, 0, false, quantity, 100);
        return x;
    }

    private static ChitWright services(int quantity, int price) {
        ChitWright x = Offices.soft();
        Offices.ordered(x, 0, true, quantity, price);
        return x;
    }

    /** "some pieces can be received, at most as many as its quantity in all" */
    private static void receivedInAll() {
        ChitWright x = goods(99);
        Check.due("one", 0, x.receive(0, 0, 1));
        Check.due("98 more", 0, x.receive(0, 0, 98));
        Check.refuses("one too many", Check.STATE, () -> x.receive(0, 0, 1));
        Check.due("all but one back", 0, x.receive(0, 0, -98));
        Check.due("one", 1, x.lineOf(0, 0, 2));
        Check.refuses("99 too many", Check.STATE, () -> x.receive(0, 0, 99));
        Check.due("98 are not", 0, x.receive(0, 0, 98));
        Check.due("all 99 back", 0, x.receive(0, 0, -99));
        Check.due("none", 0, x.lineOf(0, 0, 2));
        Check.due("all 99 at once", 0, x.receive(0, 0, 99));
        x.receive(0, 0, -20);
        x.change(0, 0, 79);
        Check.refuses("as its quantity of now", Check.STATE, () -> x.receive(0, 0, 1));
        x.change(0, 0, 80);
        Check.due("one of 80", 0, x.receive(0, 0, 1));
        x.change(0, 0, 99);
        Check.due("all 99 at last", 0, x.receive(0, 0, 19));
    }

    /** "as many as were received and are not on invoices that are booked (paid ones with them, here and below)" */
    private static void givenBack() {
        ChitWright x = goods(20);
        x.receive(0, 0, 10);
        x.invoice(0, 0, 2, 100);
        x.invoice(0, 0, 3, 100);
        x.run(2000, false);
        x.bounce(1);
        x.invoice(0, 0, 1, 100);
        x.invoice(0, 0, 9, 100);
        Check.due("held", HELD, x.invoiceOf(3, 0));
        Check.refuses("2 paid, 3 returned, 1 booked", Check.STATE, () -> x.receive(0, 0, -5));
        Check.due("4 are not", 0, x.receive(0, 0, -4));
        Check.refuses("none any more", Check.STATE, () -> x.receive(0, 0, -1));
        Check.due("one again", 0, x.receive(0, 0, 1));
        Check.due("and back", 0, x.receive(0, 0, -1));
    }

    /** "if the total is at most 105 percent of what it was when it was ordered" */
    private static void totalOfAllLines() {
        int[] quantities = {1, 17, 18, 37, 38, 94};
        int[] most = {2, 2, 3, 3, 4, 6};
        for (int i = 0; i < quantities.length; i++) {
            ChitWright x = Offices.soft();
            int r = Offices.draft(x, 0, true, quantities[i], 1);
            x.line(r, true, 2, 1);
            x.send(r);
            x.order(r, 0);
            Check.due("105 percent of " + (quantities[i] + 2), 0, x.change(r, 1, most[i]));
            int more = most[i] + 1;
            Check.refuses("a cent more", Check.STATE, () -> x.change(r, 1, more));
        }
        ChitWright x = Offices.soft();
        int r = Offices.draft(x, 0, true, 20, 50);
        x.line(r, true, 20, 50);
        x.send(r);
        x.order(r, 0);
        x.change(r, 0, 22);
        Check.refuses("2100 already", Check.STATE, () -> x.change(r, 1, 21));
        x.change(r, 1, 19);
        Check.due("one less, so one more", 0, x.change(r, 0, 23));
        Check.refuses("2150", Check.STATE, () -> x.change(r, 0, 24));
        Check.due("of what it was when it was ordered", 0, x.change(r, 0, 1));
        Check.due("not of what it is now", 0, x.change(r, 0, 23));
        Check.due("2100 are committed", 2100, x.requestOf(r, 2));
    }

    /** "the commitment becomes so much more [..] or so much less, as far as there is some" */
    private static void lessAsFarAsThereIsSome() {
        ChitWright x = services(10, 100);
        x.change(0, 0, 9);
        Check.due("a piece less", 900, x.requestOf(0, 2));
        x.invoice(0, 0, 1, 100);
        x.invoice(0, 0, 1, 105);
        Check.due("without the two on invoices", 700, x.requestOf(0, 2));
        x.change(0, 0, 3);
        Check.due("6 less", 100, x.requestOf(0, 2));
        x.change(0, 0, 2);
        Check.due("exactly what there is", 0, x.requestOf(0, 2));
        Check.due("in the centre too", 0, x.centre(0, 0, 1));
        x.change(0, 0, 10);
        Check.due("8 more", 800, x.requestOf(0, 2));
        Check.due("in the centre too", 800, x.centre(0, 0, 1));
    }

    /** "To end an order, when no invoice of it is held, makes it ENDED: what of its commitment is left is free." */
    private static void ending() {
        ChitWright x = goods(10);
        x.receive(0, 0, 4);
        x.invoice(0, 0, 4, 106);
        Check.refuses("held for its price", Check.STATE, () -> x.end(0));
        x.letGo(0, Offices.BOSS);
        x.invoice(0, 0, 1, 100);
        Check.refuses("held for pieces", Check.STATE, () -> x.end(0));
        x.receive(0, 0, 1);
        Check.due("all but 5 pieces of 100", 500, x.end(0));
        Check.due("free", 0, x.centre(0, 0, 1));
        Check.due("paid after its end", 2, x.run(0, false));
        Check.due("and returned", 508, x.bounce(0));
        ChitWright none = services(1, 7);
        none.invoice(0, 0, 1, 7);
        Check.due("nothing is left", 0, none.end(0));
        ChitWright two = services(5, 100);
        Offices.ordered(two, 0, true, 1, 100);
        two.invoice(1, 0, 2, 100);
        Check.due("one of another order is held", 500, two.end(0));
        Check.refuses("not that one", Check.STATE, () -> two.end(1));
    }

    /** "those of it and of all other invoices of the line that are booked, together, are more than were received" */
    private static void heldForPieces() {
        ChitWright x = goods(20);
        Check.due("an invoice", 0, x.invoice(0, 0, 1, 100));
        Check.due("1 of 0", 1, x.invoiceOf(0, 1));
        x.receive(0, 0, 1);
        Check.due("1 of 1", 0, x.invoiceOf(0, 1));
        Check.due("booked", BOOKED, x.invoiceOf(0, 0));
        x.receive(0, 0, 4);
        x.invoice(0, 0, 5, 100);
        Check.due("1 and 5 of 5", 1, x.invoiceOf(1, 1));
        x.invoice(0, 0, 4, 100);
        Check.due("1 and 4 of 5", BOOKED, x.invoiceOf(2, 0));
        x.run(0, false);
        x.invoice(0, 0, 1, 100);
        Check.due("paid ones with them", 1, x.invoiceOf(3, 1));
        x.bounce(0);
        x.bounce(2);
        x.invoice(0, 0, 1, 100);
        Check.due("returned ones too", 1, x.invoiceOf(4, 1));
        Check.due("pieces on booked ones", 5, x.lineOf(0, 0, 3));
        Check.due("pieces on held ones", 7, x.lineOf(0, 0, 4));
        x.invoice(0, 0, 99, 100);
        Check.due("more than its quantity", 1, x.invoiceOf(5, 1));
        Check.due("on held ones", 106, x.lineOf(0, 0, 4));
    }

    /** "(for services: than its quantity)" */
    private static void heldForPiecesOfServices() {
        ChitWright x = services(20, 100);
        x.invoice(0, 0, 21, 100);
        Check.due("21 of 20", 1, x.invoiceOf(0, 1));
        x.invoice(0, 0, 19, 100);
        Check.due("19 of 20", 0, x.invoiceOf(1, 1));
        x.invoice(0, 0, 1, 100);
        Check.due("20 of 20", 0, x.invoiceOf(2, 1));
        x.invoice(0, 0, 1, 100);
        Check.due("one more", 1, x.invoiceOf(3, 1));
        ChitWright all = services(99, 1);
        all.invoice(0, 0, 99, 1);
        Check.due("99 of 99", BOOKED, all.invoiceOf(0, 0));
    }

    /** "if its net is more than pieces times the price of the line, and 5 percent of that" */
    private static void heldForPrice() {
        int[] ordered = {1, 19, 20, 39, 40, 100, 1000, 95238};
        int[] most = {1, 19, 21, 40, 42, 105, 1050, 99999};
        for (int i = 0; i < ordered.length; i++) {
            ChitWright x = services(99, ordered[i]);
            x.invoice(0, 0, 1, most[i]);
            Check.due(most[i] + " for " + ordered[i], 0, x.invoiceOf(0, 1));
            x.invoice(0, 0, 1, most[i] + 1);
            Check.due(most[i] + 1 + " for " + ordered[i], 2, x.invoiceOf(1, 1));
            x.invoice(0, 0, 1, 1);
            Check.due("any lower price", 0, x.invoiceOf(2, 1));
        }
        ChitWright x = services(99, 19);
        x.invoice(0, 0, 19, 20);
        Check.due("380 for 361 and 18", 2, x.invoiceOf(0, 1));
        x.invoice(0, 0, 20, 19);
        Check.due("380 for 380", 0, x.invoiceOf(1, 1));
        ChitWright y = services(99, 21);
        y.invoice(0, 0, 20, 22);
        Check.due("440 for 420 and 21", 0, y.invoiceOf(0, 1));
        y.invoice(0, 0, 22, 22);
        Check.due("484 for 462 and 23", 0, y.invoiceOf(1, 1));
        y.invoice(0, 0, 9, 22);
        Check.due("198 for 189 and 9", 0, y.invoiceOf(2, 1));
        y.invoice(0, 0, 19, 22);
        Check.due("418 for 399 and 19", 0, y.invoiceOf(3, 1));
        y.invoice(0, 0, 1, 23);
        Check.due("23 for 21 and 1", 2, y.invoiceOf(4, 1));
    }

    /** "in home money by the rate of the day when it comes: times the rate, divided by 1000" */
    private static void netByTheRate() {
        int[] rates = {100, 999, 1000, 1001, 10000};
        int[] nets = {99, 998, 999, 999, 9990};
        for (int i = 0; i < rates.length; i++) {
            ChitWright x = services(99, 100000);
            x.supplier(0, 0, 1, 0, 0, 0);
            x.rate(1, rates[i]);
            x.invoice(0, 0, 1, 999);
            x.rate(1, 777);
            Check.due("999 by " + rates[i], nets[i], x.invoiceOf(0, 2));
        }
        ChitWright x = services(99, 100000);
        x.supplier(0, 0, 2, 0, 0, 0);
        x.rate(1, 10000);
        x.invoice(0, 0, 3, 333);
        Check.due("another money", 999, x.invoiceOf(0, 2));
        x.rate(2, 100);
        x.invoice(0, 0, 1, 9);
        Check.due("nothing at all", 0, x.invoiceOf(1, 2));
        Check.due("is booked", BOOKED, x.invoiceOf(1, 0));
        Check.due("without a tax", 0, x.invoiceOf(1, 3));
        x.invoice(0, 0, 11, 9);
        Check.due("99 by 100, of all pieces together", 9, x.invoiceOf(2, 2));
        heldByTheRateOfThen();
    }

    private static void heldByTheRateOfThen() {
        ChitWright x = goods(9);
        x.supplier(0, 0, 1, 0, 0, 0);
        x.rate(1, 1050);
        x.invoice(0, 0, 1, 100);
        x.supplier(0, 0, 2, 0, 0, 0);
        x.rate(1, 3000);
        x.rate(2, 2000);
        Check.due("held for pieces alone", 1, x.invoiceOf(0, 1));
        Check.due("booked by the net of then", 1, x.receive(0, 0, 1));
        Check.due("its net", 105, x.invoiceOf(0, 2));
        Check.due("its tax", 21, x.invoiceOf(0, 3));
        Check.due("owed", 126, x.invoiceOf(0, 5));
        x.run(0, false);
        Check.due("paid in the money of now", -240, x.account(BANK));
        Check.due("the difference", 114, x.account(RATES));
    }

    /** "invoices of a line are looked at again, by rising numbers, when something of it is received" */
    private static void lookedAtByRisingNumbers() {
        ChitWright x = goods(30);
        x.invoice(0, 0, 3, 100);
        x.invoice(0, 0, 2, 100);
        x.invoice(0, 0, 2, 100);
        Check.due("2 are enough for the second one", 1, x.receive(0, 0, 2));
        Check.due("the second one", BOOKED, x.invoiceOf(1, 0));
        Check.due("3 more are for the first one, not the third one", 1, x.receive(0, 0, 3));
        Check.due("the first one", BOOKED, x.invoiceOf(0, 0));
        Check.due("not the third one", HELD, x.invoiceOf(2, 0));
        Check.due("1 is too few", 0, x.receive(0, 0, 1));
        Check.due("another one", 1, x.receive(0, 0, 1));
        ChitWright y = goods(30);
        y.invoice(0, 0, 3, 100);
        y.invoice(0, 0, 4, 100);
        y.invoice(0, 0, 1, 100);
        Check.due("3 and 1 of 6", 2, y.receive(0, 0, 6));
        Check.due("4 were too many", HELD, y.invoiceOf(1, 0));
    }

    /** "or its quantity changes" */
    private static void lookedAtWhenTheQuantityChanges() {
        ChitWright x = services(20, 100);
        x.invoice(0, 0, 18, 100);
        x.invoice(0, 0, 3, 100);
        Check.due("held", 1, x.invoiceOf(1, 1));
        Check.due("21 of 21", 1, x.change(0, 0, 21));
        Check.due("booked", BOOKED, x.invoiceOf(1, 0));
        ChitWright y = goods(20);
        y.receive(0, 0, 5);
        y.invoice(0, 0, 6, 100);
        Check.due("goods are not received by that", 0, y.change(0, 0, 21));
        Check.due("held", HELD, y.invoiceOf(0, 0));
    }

    /** "the controller can let one go that is held for its price, for good" */
    private static void letGoForGood() {
        ChitWright x = goods(10);
        x.invoice(0, 0, 2, 999);
        Check.due("for both", 3, x.invoiceOf(0, 1));
        Check.due("not booked by that", false, x.letGo(0, Offices.BOSS));
        Check.due("for pieces", 1, x.invoiceOf(0, 1));
        x.receive(0, 0, 1);
        Check.due("1 is too few", HELD, x.invoiceOf(0, 0));
        Check.due("2 are enough", 1, x.receive(0, 0, 1));
        Check.due("its net is as before", 1998, x.invoiceOf(0, 2));
        x.receive(0, 0, 1);
        x.invoice(0, 0, 1, 999);
        Check.due("another one is held for its price", 2, x.invoiceOf(1, 1));
        Check.due("booked by that", true, x.letGo(1, Offices.BOSS));
    }

    private static void booked(ChitWright x, int tax, int cost, int owed) {
        Check.due("tax", tax, x.invoiceOf(0, 3));
        Check.due("cost", cost, x.invoiceOf(0, 4));
        Check.due("owed", owed, x.invoiceOf(0, 5));
        Check.due("COST", cost, x.account(COST));
        Check.due("OWED", -owed, x.account(OWED));
        Check.due("TAX, so that all are 0 together", owed - cost, x.account(TAX));
        Check.due("spent", cost, x.centre(0, 0, 2));
    }

    private static ChitWright taxed(int country, int percents, int back, int price) {
        ChitWright x = services(99, price);
        x.supplier(0, country, 0, 0, 0, 0);
        x.taxes(percents, back);
        x.invoice(0, 0, 1, price);
        return x;
    }

    /** "The tax of an invoice is its net times the percents of home", "If the supplier is at home, what is owed is net and tax" */
    private static void taxOfHome() {
        booked(taxed(0, 0, 0, 999), 0, 999, 999);
        booked(taxed(0, 0, 100, 999), 0, 999, 999);
        booked(taxed(0, 1, 100, 99), 0, 99, 99);
        booked(taxed(0, 1, 100, 100), 1, 100, 101);
        booked(taxed(0, 1, 99, 100), 1, 101, 101);
        booked(taxed(0, 20, 100, 999), 199, 999, 1198);
        booked(taxed(0, 30, 0, 999), 299, 1298, 1298);
        booked(taxed(0, 30, 1, 999), 299, 1296, 1298);
        booked(taxed(0, 30, 50, 999), 299, 1149, 1298);
        booked(taxed(0, 30, 99, 999), 299, 1002, 1298);
        booked(taxed(0, 30, 100, 1), 0, 1, 1);
        booked(taxed(0, 30, 100, 100000), 30000, 100000, 130000);
    }

    /** "from abroad it is the net alone, and the tax is owed by the office itself" */
    private static void taxFromAbroad() {
        for (int country = 1; country <= 2; country++) {
            booked(taxed(country, 0, 50, 999), 0, 999, 999);
            booked(taxed(country, 20, 100, 999), 199, 999, 999);
            booked(taxed(country, 30, 0, 999), 299, 1298, 999);
            booked(taxed(country, 30, 50, 999), 299, 1149, 999);
            booked(taxed(country, 30, 99, 999), 299, 1002, 999);
        }
    }

    /** "all by the percents, and the country of the supplier, when it is booked (ahead of that tax and cost are told as 0)" */
    private static void whenItIsBooked() {
        ChitWright x = goods(10);
        x.supplier(0, 1, 0, 7, 0, 0);
        x.taxes(10, 100);
        x.invoice(0, 0, 1, 100);
        Check.due("no tax yet", 0, x.invoiceOf(0, 3));
        Check.due("no cost yet", 0, x.invoiceOf(0, 4));
        Check.due("nothing owed yet", 0, x.invoiceOf(0, 5));
        Check.due("no day yet", ChitWright.NONE, x.invoiceOf(0, 6));
        Check.due("nor paid", 0, x.run(2000, true));
        x.supplier(0, 0, 0, 90, 0, 0);
        x.taxes(30, 50);
        x.pass(3);
        x.receive(0, 0, 1);
        booked(x, 30, 115, 130);
        Check.due("due", 93, x.invoiceOf(0, 6));
        x.taxes(5, 5);
        x.supplier(0, 2, 0, 1, 0, 0);
        x.pass(1);
        booked(x, 30, 115, 130);
        Check.due("due as before", 93, x.invoiceOf(0, 6));
    }

    /** "to take pieces times the price of the line from the commitment of the order, as far as there is some" */
    private static void takenAsFarAsThereIsSome() {
        ChitWright x = Offices.soft();
        int r = Offices.draft(x, 0, true, 2, 100);
        x.line(r, true, 9, 1);
        x.send(r);
        x.order(r, 0);
        Offices.approved(x, 0, true, 1, 5000);
        x.invoice(r, 0, 1, 50);
        Check.due("by the price of the line", 109, x.requestOf(r, 2));
        x.invoice(r, 0, 1, 105);
        Check.due("by that, again", 9, x.requestOf(r, 2));
        x.change(r, 1, 1);
        Check.due("less", 1, x.requestOf(r, 2));
        x.invoice(r, 1, 1, 1);
        Check.due("exactly what there is", 0, x.requestOf(r, 2));
        Check.due("nothing of another request", 5000, x.centre(0, 0, 1));
        ChitWright y = Offices.soft();
        int s = Offices.draft(y, 0, false, 10, 100);
        y.line(s, true, 10, 100);
        y.send(s);
        y.order(s, 0);
        y.change(s, 0, 1);
        Check.due("900 less", 1100, y.requestOf(s, 2));
        y.change(s, 0, 11);
        Check.due("1000 more", 2100, y.requestOf(s, 2));
        y.invoice(s, 1, 10, 1);
        Check.due("1000 taken, whatever was paid", 1100, y.requestOf(s, 2));
    }

    /** "due by a day that is told" */
    private static void dueByADay() {
        int[] terms = {0, 1, 89, 90};
        for (int some : terms) {
            ChitWright x = services(9, 100);
            x.supplier(0, 0, 0, some, 0, 0);
            x.pass(5);
            x.invoice(0, 0, 1, 100);
            Check.due("due", 5 + some, x.invoiceOf(0, 6));
            Check.due("a day too early", 0, x.run(4 + some, false));
            Check.due("that day", 1, x.run(5 + some, false));
            Check.due("only once", 0, x.run(2000, true));
        }
        ChitWright late = services(9, 100);
        late.invoice(0, 0, 1, 100);
        late.pass(100);
        Check.due("long ago", 1, late.run(0, false));
        ChitWright last = services(9, 100);
        last.supplier(0, 0, 0, 90, 0, 0);
        last.pass(360);
        last.pass(360);
        last.pass(359);
        last.invoice(0, 0, 1, 100);
        Check.due("behind the last day", 1169, last.invoiceOf(0, 6));
        Check.due("not by 1168", 0, last.run(1168, false));
        Check.due("by 2000", 1, last.run(2000, false));
    }

    /** "if discounts are taken, those with a discount above 0 whose days for it [..] are not over" */
    private static void discountAboveZero() {
        int[] discounts = {0, 1, 10};
        int[] paid = {0, 1188, 1080};
        for (int i = 0; i < discounts.length; i++) {
            ChitWright x = services(9, 1000);
            x.supplier(0, 0, 0, 50, discounts[i], 30);
            x.invoice(0, 0, 1, 1000);
            Check.due("not due, and none taken", 0, x.run(49, false));
            Check.due("taken, if it is above 0", i == 0 ? 0 : 1, x.run(49, true));
            Check.due("paid", -paid[i], x.account(BANK));
            Check.due("the discount", i == 0 ? 0 : paid[i] - 1200, x.account(DISCOUNTS));
        }
        ChitWright later = services(9, 1000);
        later.supplier(0, 0, 0, 50, 0, 30);
        later.invoice(0, 0, 1, 1000);
        later.supplier(0, 0, 0, 50, 2, 30);
        Check.due("the discount that is told now", 1, later.run(0, true));
        Check.due("by it", -24, later.account(DISCOUNTS));
        ChitWright gone = services(9, 1000);
        gone.supplier(0, 0, 0, 50, 2, 30);
        gone.invoice(0, 0, 1, 1000);
        gone.supplier(0, 0, 0, 50, 0, 30);
        Check.due("it is told no more", 0, gone.run(0, true));
        ChitWright days = services(9, 1000);
        days.supplier(0, 0, 0, 50, 2, 5);
        days.invoice(0, 0, 1, 1000);
        days.pass(6);
        Check.due("its days are over", 0, days.run(0, true));
        days.supplier(0, 0, 0, 50, 2, 6);
        Check.due("the days that are told now", 1, days.run(0, true));
    }

    /** "counted from when they were booked, are not over (the last one counted)" */
    private static void lastDayOfTheDiscount() {
        int[] days = {0, 1, 30};
        for (int some : days) {
            for (int passed = Math.max(0, some - 1); passed <= some + 1; passed++) {
                ChitWright x = goods(9);
                x.supplier(0, 0, 0, 90, 5, some);
                x.invoice(0, 0, 1, 100);
                x.pass(40);
                x.receive(0, 0, 1);
                if (passed > 0) {
                    x.pass(passed);
                }
                boolean isOver = passed > some;
                Check.due("day " + passed + " of " + some, isOver ? 0 : 1, x.run(0, true));
                Check.due("with a discount of 6", isOver ? 0 : -6, x.account(DISCOUNTS));
                Check.due("due, anyway", isOver ? 1 : 0, x.run(130, true));
                Check.due("without one, if they are over", isOver ? 0 : -6, x.account(DISCOUNTS));
            }
        }
    }

    /** "if the days for it are not over, whether discounts are taken or not" */
    private static void discountWithoutTakingIt() {
        for (int passed = 9; passed <= 11; passed++) {
            ChitWright x = services(9, 100);
            x.supplier(0, 0, 0, 5, 10, 10);
            x.invoice(0, 0, 1, 100);
            x.pass(passed);
            Check.due("due", 1, x.run(5, false));
            Check.due("on day " + passed + " of 10", passed <= 10 ? -108 : -120, x.account(BANK));
        }
    }

    /** "less the percents of the discount of that, rounded down" */
    private static void discountRoundedDown() {
        int[] prices = {1, 9, 10, 19, 99, 100, 101};
        int[] at10 = {0, 0, 1, 1, 9, 10, 10};
        for (int i = 0; i < prices.length; i++) {
            ChitWright x = services(9, 100);
            x.taxes(0, 0);
            x.supplier(0, 0, 0, 5, 10, 10);
            x.invoice(0, 0, 1, prices[i]);
            x.run(0, true);
            Check.due("10 percent of " + prices[i], -at10[i], x.account(DISCOUNTS));
            Check.due("the rest", at10[i] - prices[i], x.account(BANK));
            Check.due("nothing is owed", 0, x.account(OWED));
        }
    }

    /** "by the rate of now, divided by 1000" */
    private static void paidByTheRateOfNow() {
        int[] rates = {100, 999, 1000, 1001, 10000};
        int[] paid = {119, 1196, 1198, 1199, 11980};
        for (int i = 0; i < rates.length; i++) {
            ChitWright x = services(99, 1000);
            x.supplier(0, 0, 1, 0, 0, 0);
            x.invoice(0, 0, 1, 999);
            x.rate(1, rates[i]);
            x.run(0, false);
            Check.due("1198 by " + rates[i], -paid[i], x.account(BANK));
            Check.due("the difference", paid[i] - 1198, x.account(RATES));
            Check.due("owed no more", 0, x.account(OWED));
            Check.due("nothing is owed", 0, x.invoiceOf(0, 5));
            Check.due("what was paid", paid[i], x.bounce(0));
            Check.due("is owed", paid[i], x.invoiceOf(0, 5));
        }
    }

    /** "for a supplier at home the tax of that, by the percents of when it was booked" */
    private static void taxByThePercentsOfThen() {
        for (int country = 0; country <= 1; country++) {
            ChitWright x = services(99, 1000);
            x.supplier(0, country, 1, 0, 0, 0);
            x.rate(1, 1100);
            x.taxes(19, 100);
            x.invoice(0, 0, 1, 905);
            x.taxes(30, 0);
            x.supplier(0, 1 - country, 1, 0, 0, 0);
            x.run(0, false);
            Check.due("905 and 171 by 1100, or 905", country == 0 ? -1183 : -995, x.account(BANK));
            Check.due("owed were 995 and 189, or 995", country == 0 ? 1183 - 1184 : 0, x.account(RATES));
        }
    }

    /** "the invoice is stopped until it is let go on" */
    private static void stopped() {
        ChitWright x = services(9, 100);
        x.supplier(0, 0, 0, 0, 5, 5);
        x.invoice(0, 0, 1, 100);
        x.invoice(0, 0, 2, 100);
        Check.due("both", 2, x.run(0, false));
        Check.due("one is returned", 114, x.bounce(0));
        Check.due("stopped", 1, x.invoiceOf(0, 7));
        Check.due("not the other one", 0, x.invoiceOf(1, 7));
        Check.due("not paid", 0, x.run(2000, true));
        x.pass(360);
        Check.due("nor later", 0, x.run(2000, true));
        x.goOn(0);
        Check.due("not stopped", 0, x.invoiceOf(0, 7));
        Check.due("BOOKED", BOOKED, x.invoiceOf(0, 0));
        Check.due("paid", 1, x.run(0, false));
        Check.due("without a discount now", 120, x.bounce(0));
    }

    /** "what was paid, and the discount, is owed then" */
    private static void owedAfterAReturn() {
        ChitWright x = services(9, 1000);
        x.supplier(0, 0, 1, 0, 10, 5);
        x.invoice(0, 0, 1, 1000);
        x.rate(1, 2000);
        x.run(0, false);
        Check.due("2400 less 240", 2160, x.bounce(0));
        Check.due("both are owed", 2400, x.invoiceOf(0, 5));
        Check.due("OWED", -2400, x.account(OWED));
        Check.due("BANK", 0, x.account(BANK));
        Check.due("DISCOUNTS", 0, x.account(DISCOUNTS));
        Check.due("RATES stay", 1200, x.account(RATES));
        x.goOn(0);
        x.rate(1, 500);
        x.pass(6);
        x.run(0, false);
        Check.due("600 by the rate of now, and no discount", -600, x.account(BANK));
        Check.due("RATES then", 1200 - 1800, x.account(RATES));
        Check.due("what was paid last", 600, x.bounce(0));
        Check.due("is owed", 600, x.invoiceOf(0, 5));
        Check.due("its cost stays", 1000, x.invoiceOf(0, 4));
    }
}
