/** The sentences of "Trips, cards" and "Books" that name an edge: the last case on each side of it. */
final class EdgesOfBooksTest {
    private static final int COST = ChitWright.COST;
    private static final int BANK = ChitWright.BANK;
    private static final int ADVANCES = ChitWright.ADVANCES;
    private static final int CARD = ChitWright.CARD;
    private static final int STAFF = ChitWright.STAFF;

    public static void main(String[] args) {
        daysOfATrip();
        freeMeals();
        atLeastZero();
        kilometres();
        freeForATrip();
        advances();
        settling();
        privateParts();
        freeForACard();
        payingTheCard();
        balances();
        closedOn360And720();
        closedOnTheWay();
        receivedAndNotBooked();
        onlyOrdered();
        committedInTheNewYear();
        whatIsFreeIfAboveZero();
        percentsCarried();
        yearsOfRequests();
        budgetsOfOtherYears();
        Check.close("EdgesOfBooksTest");
    }

    private static void cost(long want, int rate, int days, int breakfasts, int meals, int kilometres) {
        ChitWright x = Offices.soft();
        x.place(3, rate);
        x.trip(Offices.CLERK, 5, 3, days, breakfasts, meals, kilometres);
        String what = days + " days at " + rate + ", " + breakfasts + " breakfasts, " + meals + " meals, " + kilometres + " kilometres";
        Check.due(what, want, x.tripCost(0));
        Check.due(what + ", owed", want, x.staff(Offices.CLERK, 0));
        Check.due(what + ", spent", want, x.centre(5, 0, 2));
        Check.due(what + ", COST", want, x.account(COST));
        Check.due(what + ", STAFF", -want, x.account(STAFF));
    }

    /** "the rate of the place for each day, of the first and the last one half each, rounded down, or half for one day alone" */
    private static void daysOfATrip() {
        cost(0, 0, 30, 0, 0, 0);
        cost(0, 1, 1, 0, 0, 0);
        cost(0, 1, 2, 0, 0, 0);
        cost(1, 1, 3, 0, 0, 0);
        cost(1, 2, 1, 0, 0, 0);
        cost(2, 2, 2, 0, 0, 0);
        cost(1, 3, 1, 0, 0, 0);
        cost(2, 3, 2, 0, 0, 0);
        cost(5, 3, 3, 0, 0, 0);
        cost(8, 3, 4, 0, 0, 0);
        cost(28 * 3 + 2, 3, 30, 0, 0, 0);
        cost(25000, 50000, 1, 0, 0, 0);
        cost(50000, 50000, 2, 0, 0, 0);
        cost(1450000, 50000, 30, 0, 0, 0);
        cost(49998, 49999, 2, 0, 0, 0);
    }

    /** "less 20 percent of the rate, rounded down, for each breakfast, 40 for each lunch or dinner that was free" */
    private static void freeMeals() {
        cost(40, 4, 11, 0, 0, 0);
        cost(40, 4, 11, 11, 0, 0);
        cost(49 - 11, 5, 11, 11, 0, 0);
        cost(89, 9, 11, 0, 0, 0);
        cost(89 - 11, 9, 11, 11, 0, 0);
        cost(100 - 22, 10, 11, 11, 0, 0);
        cost(20, 2, 11, 0, 22, 0);
        cost(29 - 22, 3, 11, 0, 22, 0);
        cost(49 - 44, 5, 11, 0, 22, 0);
        cost(69 - 44, 7, 11, 0, 22, 0);
        cost(80 - 66, 8, 11, 0, 22, 0);
        cost(1450000 - 300000, 50000, 30, 30, 0, 0);
        cost(1450000 - 1200000, 50000, 30, 0, 60, 0);
    }

    /** "at least 0; and 30 for each kilometre" */
    private static void atLeastZero() {
        cost(0, 100, 1, 1, 1, 0);
        cost(10, 100, 1, 0, 1, 0);
        cost(30, 100, 1, 1, 0, 0);
        cost(0, 100, 2, 1, 2, 0);
        cost(0, 100, 2, 2, 2, 0);
        cost(20, 100, 2, 0, 2, 0);
        cost(30, 100, 2, 2, 2, 1);
        cost(30, 50000, 1, 1, 2, 1);
        cost(0, 50000, 30, 30, 60, 0);
        cost(150000, 50000, 30, 30, 60, 5000);
    }

    private static void kilometres() {
        cost(30, 0, 1, 0, 0, 1);
        cost(150000, 0, 1, 0, 0, 5000);
        cost(149970, 0, 30, 30, 60, 4999);
        cost(1600000, 50000, 30, 0, 0, 5000);
    }

    /** "for a hard centre if that is free": all of it, or one cent more; in the year of now. */
    private static void freeForATrip() {
        ChitWright x = Offices.hard();
        x.budget(2, 0, 59);
        x.budget(2, 1, 30);
        x.budget(3, 0, 1000);
        Check.due("30 of 59", 0, x.trip(0, 2, 0, 1, 0, 0, 1));
        Check.refuses("30 of 29", Check.STATE, () -> x.trip(0, 2, 0, 1, 0, 0, 1));
        Check.due("nothing", 1, x.trip(0, 2, 0, 1, 0, 0, 0));
        x.budget(2, 0, 60);
        Check.due("30 of 30", 2, x.trip(0, 2, 0, 1, 0, 0, 1));
        Check.due("nothing of nothing", 3, x.trip(0, 2, 0, 1, 0, 0, 0));
        x.pass(360);
        Check.refuses("60 of the 30 of the year of now", Check.STATE, () -> x.trip(0, 2, 0, 1, 0, 0, 2));
        Check.due("30 of them", 4, x.trip(0, 2, 0, 1, 0, 0, 1));
        Check.due("only what was claimed", 90, x.account(COST));
    }

    /** "A person can have advances." */
    private static void advances() {
        ChitWright x = Offices.hard();
        Check.due("the smallest", 1, x.advance(1, 1));
        Check.due("the largest", 1000001, x.advance(1, 1000000));
        Check.due("of each person", 7, x.advance(0, 7));
        Check.due("theirs", 1000001, x.staff(1, 1));
        Check.due("ADVANCES", 1000008, x.account(ADVANCES));
        Check.due("BANK", -1000008, x.account(BANK));
        Check.due("they are not owed", 0, x.staff(1, 0));
    }

    /** "To settle with a person pays what they are owed less their advances, or, below 0, they pay it." */
    private static void settling() {
        int[] advanced = {0, 299, 300, 301};
        for (int some : advanced) {
            ChitWright x = Offices.soft();
            x.trip(1, 0, 0, 1, 0, 0, 10);
            if (some > 0) {
                x.advance(1, some);
            }
            Check.due("300 less " + some, 300 - some, x.settle(1));
            Check.due("owed nothing", 0, x.staff(1, 0));
            Check.due("no advances", 0, x.staff(1, 1));
            Check.due("BANK", -300, x.account(BANK));
            Check.due("STAFF", 0, x.account(STAFF));
            Check.due("ADVANCES", 0, x.account(ADVANCES));
            Check.due("nothing more", 0, x.settle(1));
        }
        ChitWright x = Offices.soft();
        x.card(1, 50);
        x.tell(0, 0, 50);
        Check.due("they owe a private part", -50, x.settle(1));
        Check.due("BANK gets it", 50, x.account(BANK));
    }

    /** "with a private part: the rest is spent there [..] and the person owes the private part" */
    private static void privateParts() {
        int[] own = {0, 1, 999, 1000};
        for (int some : own) {
            ChitWright x = Offices.soft();
            x.card(1, 1000);
            Check.due("what is spent", 1000 - some, x.tell(0, 4, some));
            Check.due("told", true, x.isTold(0));
            Check.due("spent", 1000 - some, x.centre(4, 0, 2));
            Check.due("the person owes it", -some, x.staff(1, 0));
            Check.due("COST", 1000 - some, x.account(COST));
            Check.due("STAFF", some, x.account(STAFF));
            Check.due("CARD", -1000, x.account(CARD));
            Check.due("all is paid", 1000, x.payCard());
        }
        ChitWright x = Offices.soft();
        x.card(0, 1);
        Check.due("the smallest, all of it private", 0, x.tell(0, 0, 1));
        x.card(0, 1000000);
        Check.due("the largest", 1000000, x.tell(1, 0, 0));
        x.card(0, 1000000);
        Check.due("all of it private", 0, x.tell(2, 0, 1000000));
        Check.due("the person owes both", -1000001, x.staff(0, 0));
    }

    /** "for the year of now, for a hard centre if that is free": all of it, or one cent more. */
    private static void freeForACard() {
        ChitWright x = Offices.hard();
        x.budget(0, 0, 70);
        x.budget(0, 1, 10);
        x.card(1, 100);
        x.card(1, 100);
        x.card(1, 100);
        Check.refuses("71 of 70", Check.STATE, () -> x.tell(0, 0, 29));
        Check.due("open", false, x.isTold(0));
        Check.due("70 of 70", 70, x.tell(0, 0, 30));
        Check.refuses("1 of 0", Check.STATE, () -> x.tell(1, 0, 99));
        Check.due("0 of 0", 0, x.tell(1, 0, 100));
        x.pass(360);
        Check.refuses("11 of the 10 of the year of now", Check.STATE, () -> x.tell(2, 0, 89));
        Check.due("10 of them", 10, x.tell(2, 0, 90));
    }

    /** "To pay the card pays all that was told since it was paid last." */
    private static void payingTheCard() {
        ChitWright x = Offices.soft();
        for (int i = 0; i < 4; i++) {
            x.card(0, 100 + i);
        }
        Check.due("nothing was told", 0, x.payCard());
        x.tell(3, 0, 0);
        x.tell(1, 0, 101);
        Check.due("two were, private or not", 204, x.payCard());
        Check.due("CARD", 0, x.account(CARD));
        Check.due("since then nothing", 0, x.payCard());
        x.tell(0, 0, 50);
        Check.due("CARD again", -100, x.account(CARD));
        Check.due("since then one", 100, x.payCard());
        Check.due("BANK", -304, x.account(BANK));
        Check.due("the last one is open", false, x.isTold(2));
    }

    private static void together(String what, ChitWright x) {
        long sum = 0;
        for (int a = COST; a <= STAFF; a++) {
            sum += x.account(a);
        }
        Check.due("the nine together after " + what, 0, sum);
    }

    /** "There are nine accounts, whose balances are 0 together at any time" */
    private static void balances() {
        ChitWright x = Offices.busy();
        together("all of a busy office", x);
        x.letGo(Offices.DEAR, Offices.CONTROLLER);
        together("a booking from abroad", x);
        x.rate(1, 1777);
        x.run(2000, true);
        together("payments by another rate, with discounts", x);
        x.bounce(ChitWright.BOOKED);
        together("a return", x);
        x.advance(0, 777);
        together("an advance", x);
        x.trip(1, 2, 0, 3, 1, 1, 7);
        together("a trip", x);
        x.tell(1, 2, 333);
        together("a card entry", x);
        x.payCard();
        together("the card", x);
        x.settle(2);
        x.settle(0);
        together("settling", x);
        x.pass(360);
        together("a year", x);
    }

    /** 10 goods for 100 each, of which 4 were received, in a soft centre with so much budget. */
    private static ChitWright toBeClosed(int budget) {
        ChitWright x = Offices.soft();
        x.budget(0, 0, budget);
        Offices.ordered(x, 0, false, 10, 100);
        x.receive(0, 0, 4);
        return x;
    }

    private static void centre(String what, ChitWright x, int year, long... want) {
        for (int w = 0; w < want.length; w++) {
            Check.due(what + ", year " + year + ", what " + w, want[w], x.centre(0, year, w));
        }
    }

    /** "When the day comes to be 360, or 720, the year ahead of it is closed" */
    private static void closedOn360And720() {
        ChitWright x = toBeClosed(2000);
        x.carried(100);
        x.pass(359);
        centre("day 359", x, 0, 2000, 1000, 0, 1000);
        centre("day 359", x, 1, 0, 0, 0, 0);
        x.pass(1);
        centre("day 360", x, 0, 400, 0, 400, 0);
        centre("day 360", x, 1, 1600, 1000, -400, 1000);
        x.pass(359);
        centre("day 719", x, 1, 1600, 1000, -400, 1000);
        centre("day 719", x, 2, 0, 0, 0, 0);
        x.pass(1);
        centre("day 720", x, 0, 400, 0, 400, 0);
        centre("day 720", x, 1, 0, 0, 0, 0);
        centre("day 720", x, 2, 1600, 1000, -400, 1000);
        x.pass(359);
        centre("day 1079", x, 2, 1600, 1000, -400, 1000);
        Check.due("COST", 0, x.account(COST));
    }

    private static void closedOnTheWay() {
        int[] first = {1, 100, 359};
        for (int some : first) {
            ChitWright x = toBeClosed(2000);
            x.pass(some);
            x.pass(360);
            centre("from " + some, x, 0, 1000, 0, 400, 600);
            centre("from " + some, x, 1, 1000, 1000, -400, 400);
            centre("from " + some, x, 2, 0, 0, 0, 0);
        }
        ChitWright x = toBeClosed(2000);
        x.pass(360);
        x.receive(0, 0, 1);
        x.pass(360);
        centre("the first year", x, 0, 1000, 0, 400, 600);
        centre("the second year", x, 1, 0, 0, 100, -100);
        centre("the third year", x, 2, 1000, 1000, -500, 500);
    }

    /** "that were received, and are not on invoices that are booked, times the price" */
    private static void receivedAndNotBooked() {
        ChitWright all = toBeClosed(0);
        all.invoice(0, 0, 4, 100);
        all.run(0, false);
        long spent = all.centre(0, 0, 2);
        all.pass(360);
        Check.due("none is left", spent, all.centre(0, 0, 2));
        Check.due("none comes back", 0, all.centre(0, 1, 2));
        ChitWright held = toBeClosed(0);
        held.invoice(0, 0, 3, 100);
        held.invoice(0, 0, 2, 100);
        held.invoice(0, 0, 1, 106);
        held.pass(360);
        Check.due("3 booked, 1 not, though it is on held ones", 400, held.centre(0, 0, 2));
        Check.due("as much less", -100, held.centre(0, 1, 2));
        Check.due("then it is booked", 1, held.receive(0, 0, 1));
        Check.due("200 more in the new year", 100, held.centre(0, 1, 2));
        ChitWright returned = toBeClosed(0);
        returned.invoice(0, 0, 3, 100);
        returned.run(0, false);
        returned.bounce(0);
        returned.pass(360);
        Check.due("a returned one is booked", 400, returned.centre(0, 0, 2));
        ChitWright back = toBeClosed(0);
        back.receive(0, 0, -4);
        back.pass(360);
        Check.due("given back", 0, back.centre(0, 0, 2));
        ChitWright services = Offices.soft();
        Offices.ordered(services, 0, true, 10, 100);
        services.pass(360);
        Check.due("services", 0, services.centre(0, 0, 2));
        everyLine();
    }

    private static void everyLine() {
        ChitWright x = Offices.soft();
        int r = x.request(Offices.BOSS, 0);
        for (int i = 0; i < 4; i++) {
            x.line(r, false, 10, 10 + i);
        }
        x.send(r);
        x.order(r, 0);
        for (int i = 0; i < 4; i++) {
            x.receive(r, i, 1 + i);
        }
        int other = Offices.ordered(x, 1, false, 1, 7);
        x.receive(other, 0, 1);
        x.pass(360);
        Check.due("of each line by its price", 10 + 22 + 36 + 52, x.centre(0, 0, 2));
        Check.due("in its own centre", 7, x.centre(1, 0, 2));
        Check.due("less in the new one", -120, x.centre(0, 1, 2));
        Check.due("of the other one", -7, x.centre(1, 1, 2));
    }

    /** "of requests that are ORDERED" */
    private static void onlyOrdered() {
        ChitWright x = toBeClosed(0);
        x.end(0);
        x.pass(360);
        Check.due("ENDED", 0, x.centre(0, 0, 2));
        Check.due("nothing comes back", 0, x.centre(0, 1, 2));
        Check.due("its year stays", 0, x.requestOf(0, 3));
    }

    /** "all that is committed in the old year is committed in the new one in place of that, with as much of the budget" */
    private static void committedInTheNewYear() {
        ChitWright x = Offices.soft();
        x.budget(0, 0, 600);
        x.budget(0, 1, 50);
        Offices.approved(x, 0, true, 1, 1000);
        x.pass(360);
        centre("below 0", x, 0, -400, 0, 0, -400);
        centre("with as much of it", x, 1, 1050, 1000, 0, 50);
        x.edit(0, 0, 1);
        Check.due("free in the new year", 1050, x.centre(0, 1, 3));
        x.pass(360);
        centre("nothing is committed", x, 1, 1050, 0, 0, 1050);
        centre("nothing goes on", x, 2, 0, 0, 0, 0);
    }

    /** "of what is free in the old year then, if it is above 0" */
    private static void whatIsFreeIfAboveZero() {
        int[] free = {-100, -1, 0, 1, 2, 100};
        int[] half = {0, 0, 0, 0, 1, 50};
        for (int i = 0; i < free.length; i++) {
            ChitWright x = toBeClosed(1400 + free[i]);
            x.carried(50);
            x.pass(360);
            centre("free " + free[i], x, 0, 400 + free[i] - half[i], 0, 400, free[i] - half[i]);
            centre("free " + free[i], x, 1, 1000 + half[i], 1000, -400, 400 + half[i]);
        }
    }

    /** "the percents that are carried, 0 at first, go from the budget of the old year to that of the new one" */
    private static void percentsCarried() {
        int[] percents = {0, 1, 33, 99, 100};
        int[] carried = {0, 1, 65, 197, 199};
        for (int i = 0; i < percents.length; i++) {
            ChitWright x = Offices.hard();
            x.budget(5, 0, 199);
            x.budget(5, 1, 3);
            x.budget(4, 1, 77);
            x.carried(percents[i]);
            x.pass(360);
            Check.due(percents[i] + " percents of 199", 3 + carried[i], x.centre(5, 1, 0));
            Check.due("go from the old year", 199 - carried[i], x.centre(5, 0, 0));
            Check.due("not in another centre", 77, x.centre(4, 1, 0));
        }
        ChitWright x = Offices.hard();
        x.budget(5, 0, 199);
        x.pass(360);
        Check.due("0 at first", 0, x.centre(5, 1, 0));
    }

    /** "the new year is that of requests then that are SENT, APPROVED or ORDERED and were of the old one" */
    private static void yearsOfRequests() {
        ChitWright x = Offices.busy();
        x.pass(350);
        int[] years = {-1, 1, 1, 0, 1, 0, -1, -1, -1};
        for (int r = 0; r < Offices.REQUESTS; r++) {
            Check.due("the year of " + r, years[r], x.requestOf(r, 3));
        }
        x.send(ChitWright.DRAFT);
        x.pass(360);
        int[] later = {2, 2, 2, 0, 2, 0, -1, -1, -1};
        for (int r = 0; r < Offices.REQUESTS; r++) {
            Check.due("a year later, of " + r, later[r], x.requestOf(r, 3));
        }
        x.edit(ChitWright.REFUSED, 0, 1);
        x.send(ChitWright.REFUSED);
        Check.due("sent in the last year", 2, x.requestOf(ChitWright.REFUSED, 3));
    }

    /** "For each year, 0 to 2, a centre has a budget, a commitment, and what was spent" */
    private static void budgetsOfOtherYears() {
        ChitWright x = Offices.hard();
        x.budget(0, 2, 10);
        x.budget(1, 0, 20);
        int r = x.request(Offices.BOSS, 0);
        x.line(r, true, 1, 10);
        Check.refuses("not in the year 0", Check.STATE, () -> x.send(r));
        x.pass(360);
        Check.refuses("not in the year 1", Check.STATE, () -> x.send(r));
        x.pass(360);
        Check.due("in the year 2", 0, x.send(r));
        Check.due("all of it", 0, x.centre(0, 2, 3));
        x.pass(359);
        Check.due("to the last day", 10, x.centre(0, 2, 1));
        Check.due("a budget of an old year", 20, x.budget(1, 0, 30));
        Check.due("can be moved still", 30, x.transfer(1, 2, 0, 30));
    }
}
