/** The sentences of "Persons, centres" and "Requests" that name an edge: the last case on each side of it. */
final class EdgesOfRequestsTest {
    private static final int NONE = ChitWright.NONE;
    private static final int SENT = ChitWright.SENT;
    private static final int APPROVED = ChitWright.APPROVED;

    public static void main(String[] args) {
        yearsOfNow();
        controllerAtFirst();
        absentAheadOfADay();
        absentTwice();
        limitAtLeastTheTotal();
        noneWhoseLimitIsEnough();
        ownLimit();
        controllerFrom100000();
        controllerIsThePerson();
        controllerInTheChain();
        controllerAboveTheChain();
        controllerOfThen();
        inTurn();
        whoCouldForTwo();
        substituteOfTheController();
        substituteIsThePerson();
        substituteAbsentToo();
        refusing();
        editing();
        editingAgain();
        freeAgain();
        freeAgainInTheNewYear();
        softAndHard();
        Check.close("EdgesOfRequestsTest");
    }

    private static int draft(ChitWright x, int person, int total) {
        int r = x.request(person, 0);
        x.line(r, true, 1, total);
        return r;
    }

    private static int sent(ChitWright x, int person, int total) {
        int r = draft(x, person, total);
        x.send(r);
        return r;
    }

    /** Persons 0 to 3, each the boss of the next one, with these limits; 4 is beside them; the centre 0 is soft. */
    private static ChitWright chain(int limit0, int limit1, int limit2) {
        ChitWright x = new ChitWright();
        x.person(NONE, limit0);
        x.person(0, limit1);
        x.person(1, limit2);
        x.person(2, 10000000);
        x.person(NONE, 10000000);
        x.soft(0, true);
        return x;
    }

    /** "The day is 0 at first, at most 1079; a year has 360 days, the first one is the year 0." */
    private static void yearsOfNow() {
        int[] steps = {0, 359, 1, 359, 1, 359};
        int[] days = {0, 359, 360, 719, 720, 1079};
        int[] years = {0, 0, 1, 1, 2, 2};
        ChitWright x = Offices.soft();
        for (int i = 0; i < steps.length; i++) {
            if (steps[i] > 0) {
                Check.due("the day then", days[i], x.pass(steps[i]));
            }
            int r = sent(x, Offices.BOSS, 10);
            Check.due("the year of day " + days[i], years[i], x.requestOf(r, 3));
            long before = x.centre(1, years[i], 2);
            x.trip(0, 1, 0, 1, 0, 0, 1);
            Check.due("spent on day " + days[i], before + 30, x.centre(1, years[i], 2));
        }
        Check.refuses("above 1079", Check.STATE, () -> x.pass(1));
    }

    /** "One person is the controller, the person 0 at first." */
    private static void controllerAtFirst() {
        ChitWright x = new ChitWright();
        x.person(NONE, 0);
        x.person(NONE, 0);
        x.soft(0, true);
        int r = sent(x, 1, 100000);
        Check.due("the person 0 controls", 0, x.next(r));
        Check.due("it was 0", 0, x.controller(1));
        Check.due("then 1", 1, x.controller(1));
        Check.due("the one of then controls still", 0, x.next(r));
        Check.due("and approves", 0, x.approve(r, 0));
    }

    /** "A person can be absent, ahead of some day, with a substitute." */
    private static void absentAheadOfADay() {
        int[] untils = {0, 9, 10, 11, 1079};
        boolean[] away = {false, false, false, true, true};
        for (int i = 0; i < untils.length; i++) {
            ChitWright x = chain(0, 0, 0);
            x.pass(10);
            int r = sent(x, 3, 5);
            x.absent(2, untils[i], 4);
            Check.due("absent until " + untils[i] + " on day 10", away[i] ? 4 : 2, x.next(r));
        }
        ChitWright x = chain(0, 0, 0);
        int r = sent(x, 3, 5);
        x.absent(2, 1079, 4);
        x.pass(360);
        x.pass(360);
        x.pass(358);
        Check.due("absent on day 1078", 4, x.next(r));
        x.pass(1);
        Check.due("there on day 1079", 2, x.next(r));
        ChitWright first = chain(0, 0, 0);
        int s = sent(first, 3, 5);
        first.absent(2, 1, 4);
        Check.due("absent on day 0", 4, first.next(s));
    }

    /** "Tells that a person is absent, in place of before." */
    private static void absentTwice() {
        ChitWright x = chain(0, 0, 0);
        int r = sent(x, 3, 5);
        x.absent(2, 100, 4);
        x.absent(2, 50, 1);
        Check.due("the later substitute", 1, x.next(r));
        x.pass(50);
        Check.due("the later day", 2, x.next(r));
        x.absent(2, 51, 4);
        x.absent(2, 0, 4);
        Check.due("there after all", 2, x.next(r));
        x.absent(2, 60, 4);
        Check.due("absent again", 4, x.next(r));
    }

    /** "up to the first one whose limit is at least the total" */
    private static void limitAtLeastTheTotal() {
        ChitWright x = chain(10000000, 300, 200);
        int[] totals = {1, 199, 200, 201, 299, 300, 301, 99999};
        int[] bosses = {1, 1, 1, 2, 2, 2, 3, 3};
        for (int i = 0; i < totals.length; i++) {
            Check.due("bosses for " + totals[i], bosses[i], x.send(draft(x, 3, totals[i])));
        }
        ChitWright y = chain(5, 7, 5);
        Check.due("the first one, though the next one may less", 2, y.send(draft(y, 3, 6)));
        Check.due("the first one of two", 1, y.send(draft(y, 3, 5)));
    }

    /** "or else to the last one" */
    private static void noneWhoseLimitIsEnough() {
        ChitWright x = chain(5, 5, 5);
        Check.due("all three", 3, x.send(draft(x, 3, 6)));
        Check.due("one boss alone", 1, x.send(draft(x, 1, 6)));
        Check.due("nobody", 0, x.send(draft(x, 0, 6)));
        Check.due("APPROVED, if there is nobody", APPROVED, x.requestOf(2, 0));
        ChitWright y = chain(0, 0, 0);
        Check.due("limits of 0", 3, y.send(draft(y, 3, 1)));
    }

    /** The chain begins with the boss of the person, whatever the limit of the person is. */
    private static void ownLimit() {
        ChitWright x = chain(0, 0, 0);
        Check.due("3 may 10000000, but has bosses", 3, x.send(draft(x, 3, 5)));
        Check.due("4 has none", 0, x.send(draft(x, 4, 99999)));
    }

    /** "if the total is 100000 or more, the controller of now" */
    private static void controllerFrom100000() {
        ChitWright x = chain(0, 0, 0);
        x.controller(4);
        Check.due("99999: three bosses", 3, x.send(draft(x, 3, 99999)));
        Check.due("100000: and the controller", 4, x.send(draft(x, 3, 100000)));
        Check.due("alone", 1, x.send(draft(x, 0, 100000)));
        Check.due("nobody", 0, x.send(draft(x, 0, 99999)));
        int r = x.request(0, 0);
        x.line(r, true, 50, 1999);
        x.line(r, false, 50, 1);
        Check.due("of all lines together", 1, x.send(r));
    }

    /** "unless that is the person" */
    private static void controllerIsThePerson() {
        ChitWright x = chain(0, 0, 0);
        x.controller(3);
        Check.due("the bosses alone", 3, x.send(draft(x, 3, 100000)));
        x.controller(0);
        Check.due("nobody", 0, x.send(draft(x, 0, 100000)));
        Check.due("APPROVED", APPROVED, x.requestOf(1, 0));
    }

    /** "or in the chain already", "one who was among the bosses already, in turn" */
    private static void controllerInTheChain() {
        for (int controller = 0; controller <= 2; controller++) {
            ChitWright x = chain(0, 0, 0);
            x.controller(controller);
            int r = draft(x, 3, 100000);
            Check.due("three in all", 3, x.send(r));
            if (controller < 2) {
                int early = controller;
                Check.refuses("not whenever", Check.STATE, () -> x.approve(r, early));
                Check.refuses("nor refusing", Check.STATE, () -> x.refuse(r, early));
            }
            Check.due("in turn", 2, x.approve(r, 2));
            Check.due("in turn", 1, x.approve(r, 1));
            Check.due("in turn", 0, x.approve(r, 0));
        }
    }

    /** A boss above the one whose limit is enough is not in the chain: as the controller that one is put behind. */
    private static void controllerAboveTheChain() {
        ChitWright x = chain(10000000, 10000000, 100000);
        x.controller(1);
        int r = draft(x, 3, 100000);
        Check.due("2 and the controller", 2, x.send(r));
        Check.due("whenever", 1, x.approve(r, 1));
        Check.due("2 still", 2, x.next(r));
        Check.due("all", 0, x.approve(r, 2));
        int larger = draft(x, 3, 99999);
        x.line(larger, true, 1, 2);
        Check.due("100001: 2 and 1, who is among them then", 2, x.send(larger));
        Check.refuses("so in turn", Check.STATE, () -> x.approve(larger, 1));
    }

    /** "the controller of then, who was put behind them so, whenever" */
    private static void controllerOfThen() {
        for (int turn = 0; turn <= 3; turn++) {
            ChitWright x = chain(0, 0, 0);
            x.controller(4);
            int r = sent(x, 3, 100000);
            x.controller(0);
            int missing = 4;
            for (int i = 0; i <= 3; i++) {
                if (i == turn) {
                    missing--;
                    Check.due("the controller after " + i + " bosses", missing, x.approve(r, 4));
                }
                if (i < 3) {
                    missing--;
                    Check.due("boss " + i, missing, x.approve(r, 2 - i));
                }
            }
            Check.due("APPROVED", APPROVED, x.requestOf(r, 0));
        }
    }

    /** "Those of the chain approve one after the other" */
    private static void inTurn() {
        ChitWright x = chain(0, 0, 0);
        int r = sent(x, 3, 5);
        for (int turn = 2; turn >= 0; turn--) {
            Check.due("whose turn it is", turn, x.next(r));
            Check.due("so many have to", turn + 1, x.requestOf(r, 4));
            for (int other = 0; other < 5; other++) {
                int who = other;
                if (who != turn) {
                    Check.refuses(who + " is not in turn", Check.STATE, () -> x.approve(r, who));
                }
            }
            Check.due("SENT", SENT, x.requestOf(r, 0));
            Check.due("so many still", turn, x.approve(r, turn));
        }
        Check.due("when all have", APPROVED, x.requestOf(r, 0));
        Check.due("nobody can", NONE, x.next(r));
    }

    /** "who could for two of them does so for the one whose turn it is" */
    private static void whoCouldForTwo() {
        ChitWright x = chain(0, 0, 0);
        x.controller(4);
        int r = sent(x, 3, 100000);
        x.absent(2, 9, 4);
        Check.due("for 2", 3, x.approve(r, 4));
        Check.due("1 in turn", 1, x.next(r));
        Check.due("for the controller", 2, x.approve(r, 4));
        Check.refuses("no more", Check.STATE, () -> x.approve(r, 4));
        Check.due("1", 1, x.approve(r, 1));
        Check.due("0", 0, x.approve(r, 0));
        int second = sent(x, 3, 100000);
        x.absent(4, 9, 1);
        x.absent(2, 9, 1);
        Check.due("1 for 2", 3, x.approve(second, 1));
        Check.due("1 for 1", 2, x.approve(second, 1));
        Check.due("1 for the controller", 1, x.approve(second, 1));
        Check.refuses("1 no more", Check.STATE, () -> x.approve(second, 1));
        Check.due("0 is left", 0, x.approve(second, 0));
    }

    /** "For one of them who is absent the substitute approves" */
    private static void substituteOfTheController() {
        ChitWright x = chain(0, 0, 0);
        x.controller(4);
        int r = sent(x, 0, 100000);
        x.absent(4, 5, 2);
        Check.due("for the controller", 2, x.next(r));
        Check.refuses("who is absent", Check.STATE, () -> x.approve(r, 4));
        x.pass(4);
        Check.due("on the last day", 2, x.next(r));
        x.pass(1);
        Check.due("there again", 4, x.next(r));
        Check.refuses("the substitute no more", Check.STATE, () -> x.approve(r, 2));
        Check.due("the controller", 0, x.approve(r, 4));
    }

    /** "but nobody if that is the person of the request" */
    private static void substituteIsThePerson() {
        ChitWright x = chain(0, 0, 0);
        x.controller(4);
        int r = sent(x, 3, 100000);
        int other = sent(x, 2, 100000);
        x.absent(2, 9, 3);
        x.absent(1, 9, 3);
        Check.due("nobody for 2: the controller", 4, x.next(r));
        Check.due("3 for 1 in a request of another one", 3, x.next(other));
        Check.due("the controller", 3, x.approve(r, 4));
        Check.due("nobody", NONE, x.next(r));
        Check.due("three still have to", 3, x.requestOf(r, 4));
        for (int p = 0; p < 5; p++) {
            int who = p;
            Check.refuses("nobody can", Check.STATE, () -> x.approve(r, who));
            Check.refuses("nor refuse", Check.STATE, () -> x.refuse(r, who));
        }
        x.pass(9);
        Check.due("2 is there again", 2, x.next(r));
        int last = sent(x, 0, 100000);
        x.absent(4, 20, 0);
        Check.due("nobody for the controller", NONE, x.next(last));
        Check.due("one has to", 1, x.requestOf(last, 4));
    }

    /** "For one of them who is absent the substitute approves": there is no word of a substitute who is absent. */
    private static void substituteAbsentToo() {
        ChitWright x = chain(0, 0, 0);
        int r = sent(x, 3, 5);
        x.absent(2, 9, 4);
        x.absent(4, 9, 0);
        Check.due("the substitute", 4, x.next(r));
        Check.refuses("not theirs", Check.STATE, () -> x.approve(r, 0));
        Check.due("approves", 2, x.approve(r, 4));
    }

    /** "Whoever could approve it can refuse it: it is REFUSED." */
    private static void refusing() {
        for (int who = 0; who < 5; who++) {
            ChitWright x = chain(0, 0, 0);
            x.controller(4);
            int r = sent(x, 3, 100000);
            int by = who;
            if (who == 2 || who == 4) {
                x.refuse(r, by);
                Check.due("REFUSED by " + by, ChitWright.REFUSED, x.requestOf(r, 0));
                Check.due("none has to approve it", 0, x.requestOf(r, 4));
                Check.due("nothing is committed", 0, x.centre(0, 0, 1));
            } else {
                Check.refuses("by " + by, Check.STATE, () -> x.refuse(r, by));
            }
        }
        ChitWright x = chain(0, 0, 0);
        x.controller(4);
        int r = sent(x, 3, 100000);
        x.approve(r, 2);
        x.approve(r, 1);
        x.approve(r, 0);
        Check.due("the controller is left", 1, x.requestOf(r, 4));
        x.refuse(r, 4);
        Check.due("REFUSED by the last one", ChitWright.REFUSED, x.requestOf(r, 0));
    }

    /** "To edit a request that is SENT, APPROVED or REFUSED makes it a DRAFT again, without approvals." */
    private static void editing() {
        for (int state = ChitWright.DRAFT; state <= ChitWright.REFUSED; state++) {
            ChitWright x = Offices.busy();
            long committed = x.centre(0, 0, 1);
            long own = x.requestOf(state, 2);
            Check.due("the quantity before", 40, x.edit(state, 0, 40));
            Check.due("a DRAFT, though nothing is another", ChitWright.DRAFT, x.requestOf(state, 0));
            Check.due("nothing of it is committed", 0, x.requestOf(state, 2));
            Check.due("that is free", committed - own, x.centre(0, 0, 1));
            Check.due("none has to approve it", 0, x.requestOf(state, 4));
            Check.due("the year of what was committed", state == ChitWright.DRAFT ? NONE : 0, x.requestOf(state, 3));
            Check.due("all have to again", 3, x.send(state));
            Check.due("committed again", 154000, x.requestOf(state, 2));
        }
        ChitWright x = Offices.busy();
        Check.due("the first line", 40, x.edit(ChitWright.SENT, 0, 1));
        Check.due("the second one", 5, x.edit(ChitWright.SENT, 1, 99));
        Check.due("their total", 100 + 99 * 30000, x.requestOf(ChitWright.SENT, 1));
        Check.due("nothing else", 154000, x.requestOf(ChitWright.APPROVED, 1));
    }

    private static void editingAgain() {
        ChitWright x = chain(0, 0, 0);
        int r = sent(x, 3, 5);
        x.approve(r, 2);
        x.approve(r, 1);
        x.edit(r, 0, 99);
        Check.refuses("a DRAFT is not approved", Check.STATE, () -> x.approve(r, 0));
        Check.due("without approvals", 3, x.send(r));
        Check.due("the first one again", 2, x.next(r));
        x.refuse(r, 2);
        Check.refuses("REFUSED, it is not sent", Check.STATE, () -> x.send(r));
        x.edit(r, 0, 1);
        Check.due("a line more", 2, x.line(r, true, 1, 1));
        Check.due("sent again", 3, x.send(r));
    }

    /** "What a request that is REFUSED or edited has committed is free again." */
    private static void freeAgain() {
        ChitWright x = chain(0, 0, 0);
        x.soft(0, false);
        x.budget(0, 0, 10);
        int r = sent(x, 3, 10);
        int other = draft(x, 3, 10);
        Check.refuses("nothing is free", Check.STATE, () -> x.send(other));
        x.refuse(r, 2);
        Check.due("it is again", 10, x.centre(0, 0, 3));
        x.edit(r, 0, 1);
        Check.due("only once", 10, x.centre(0, 0, 3));
        x.send(other);
        Check.due("committed", 0, x.centre(0, 0, 3));
        x.edit(other, 0, 2);
        Check.due("free again", 10, x.centre(0, 0, 3));
        Check.refuses("20 are not", Check.STATE, () -> x.send(other));
    }

    private static void freeAgainInTheNewYear() {
        ChitWright x = chain(0, 0, 0);
        x.budget(0, 0, 10);
        int r = sent(x, 3, 10);
        x.pass(360);
        Check.due("committed in the new year", 10, x.centre(0, 1, 1));
        x.edit(r, 0, 1);
        Check.due("free in the new year", 10, x.centre(0, 1, 3));
        Check.due("nothing in the old one", 0, x.centre(0, 0, 3));
        Check.due("its year", 1, x.requestOf(r, 3));
    }

    /** "The centres are 0 to 5, hard at first, or soft." */
    private static void softAndHard() {
        for (int c = 0; c < 6; c++) {
            ChitWright x = Offices.hard();
            x.budget(c, 0, 5);
            int r = x.request(Offices.BOSS, c);
            x.line(r, true, 1, 6);
            Check.refuses("6 of 5 in a hard centre", Check.STATE, () -> x.send(r));
            x.edit(r, 0, 1);
            x.soft((c + 1) % 6, true);
            Check.refuses("another one is soft", Check.STATE, () -> x.send(r));
            x.soft(c, true);
            Check.due("in a soft one", 0, x.send(r));
            Check.due("free below 0", -1, x.centre(c, 0, 3));
        }
    }
}
