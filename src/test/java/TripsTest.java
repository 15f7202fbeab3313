/** Promises 28 to 35: trips, cards, samples; with 42 to 44 and 46, what is told of them. */
final class TripsTest {
    private static final int COST = ChitWright.COST;
    private static final int BANK = ChitWright.BANK;
    private static final int ADVANCES = ChitWright.ADVANCES;
    private static final int CARD = ChitWright.CARD;
    private static final int STAFF = ChitWright.STAFF;

    public static void main(String[] args) {
        promise28();
        promise29();
        costs();
        tripBudgets();
        promise30();
        promise31();
        promise32();
        promise33();
        promise34();
        promise35();
        Check.close("TripsTest");
    }

    private static void promise28() {
        ChitWright x = Offices.soft();
        for (int i = 0; i < 4; i++) {
            Check.due("0 at first", 0, x.place(i, 1000 * i));
        }
        Check.due("what it was", 3000, x.place(3, 50000));
        Check.due("the most", 50000, x.place(3, 7));
        Check.refuses("place 4", Check.NUMBER, () -> x.place(4, -1));
        Check.refuses("place -1", Check.NUMBER, () -> x.place(-1, 1));
        Check.refuses("rate -1", Check.RANGE, () -> x.place(0, -1));
        Check.refuses("rate 50001", Check.RANGE, () -> x.place(0, 50001));
        Check.due("as before", 7, x.place(3, 0));
        Check.due("the others too", 2000, x.place(2, 1));
        x.trip(0, 0, 1, 3, 0, 0, 0);
        x.place(1, 10);
        Check.due("a trip stays", 2000, x.tripCost(0));
    }

    private static void promise29() {
        ChitWright x = Offices.soft();
        x.place(2, 1000);
        Check.refuses("person 2", Check.NUMBER, () -> x.trip(2, 0, 0, 0, 0, 0, 0));
        Check.refuses("person -1", Check.NUMBER, () -> x.trip(-1, 0, 0, 1, 0, 0, 0));
        Check.refuses("centre 6", Check.NUMBER, () -> x.trip(0, 6, 0, 0, 0, 0, 0));
        Check.refuses("centre -1", Check.NUMBER, () -> x.trip(0, -1, 0, 1, 0, 0, 0));
        Check.refuses("place 4", Check.NUMBER, () -> x.trip(0, 0, 4, 0, 0, 0, 0));
        Check.refuses("place -1", Check.NUMBER, () -> x.trip(0, 0, -1, 1, 0, 0, 0));
        Check.refuses("days 0", Check.RANGE, () -> x.trip(0, 0, 2, 0, 0, 0, 0));
        Check.refuses("days 31", Check.RANGE, () -> x.trip(0, 0, 2, 31, 0, 0, 0));
        Check.refuses("breakfasts -1", Check.RANGE, () -> x.trip(0, 0, 2, 2, -1, 0, 0));
        Check.refuses("breakfasts 3", Check.RANGE, () -> x.trip(0, 0, 2, 2, 3, 0, 0));
        Check.refuses("meals -1", Check.RANGE, () -> x.trip(0, 0, 2, 2, 0, -1, 0));
        Check.refuses("meals 5", Check.RANGE, () -> x.trip(0, 0, 2, 2, 0, 5, 0));
        Check.refuses("kilometres -1", Check.RANGE, () -> x.trip(0, 0, 2, 2, 0, 0, -1));
        Check.refuses("kilometres 5001", Check.RANGE, () -> x.trip(0, 0, 2, 2, 0, 0, 5001));
        for (int i = 0; i < 30; i++) {
            Check.due("trip", i, x.trip(1, 4, 2, 2, 2, 4, 1));
        }
        Check.refuses("a 31st", Check.STATE, () -> x.trip(1, 4, 2, 2, 2, 4, 1));
        Check.refuses("a 31st, out of range", Check.RANGE, () -> x.trip(1, 4, 2, 0, 0, 0, 0));
        Check.due("owed", 900, x.staff(1, 0));
        Check.due("spent", 900, x.centre(4, 0, 2));
        Check.due("COST", 900, x.account(COST));
        Check.due("STAFF", -900, x.account(STAFF));
    }

    private static void costs() {
        ChitWright x = Offices.soft();
        x.place(0, 1001);
        x.place(1, 50000);
        x.place(2, 3);
        x.place(3, 8);
        cost(x, 500, 0, 1, 0, 0, 0);
        cost(x, 1000, 0, 2, 0, 0, 0);
        cost(x, 2001, 0, 3, 0, 0, 0);
        cost(x, 29 * 50000 + 150000, 1, 30, 0, 0, 5000);
        cost(x, 500 - 200, 0, 1, 1, 0, 0);
        cost(x, 500 - 400, 0, 1, 0, 1, 0);
        cost(x, 0, 0, 1, 1, 1, 0);
        cost(x, 30, 0, 1, 1, 2, 1);
        cost(x, 2001 - 2 * 200 - 3 * 400, 0, 3, 2, 3, 0);
        cost(x, 2 * 3 + 2 * 1 - 4 * 1, 2, 4, 4, 4, 0);
        cost(x, 6 * 8 - 7 * 1 - 8 * 3, 3, 7, 7, 8, 0);
    }

    private static void cost(ChitWright x, long want, int place, int days, int breakfasts, int meals, int kilometres) {
        int trip = x.trip(0, 0, place, days, breakfasts, meals, kilometres);
        Check.due("trip to " + place + ", " + days + " days", want, x.tripCost(trip));
    }

    private static void tripBudgets() {
        ChitWright x = Offices.hard();
        x.budget(1, 0, 300);
        x.budget(1, 1, 60);
        Check.refuses("not free", Check.STATE, () -> x.trip(0, 1, 0, 1, 0, 0, 11));
        x.trip(0, 1, 0, 1, 0, 0, 10);
        Check.due("free", 0, x.centre(1, 0, 3));
        x.pass(360);
        Check.refuses("not free in the year of now", Check.STATE, () -> x.trip(0, 1, 0, 1, 0, 0, 3));
        x.trip(0, 1, 0, 1, 0, 0, 2);
        Check.due("the year of now", 60, x.centre(1, 1, 2));
        Check.due("nothing at no cost", 2, x.trip(0, 1, 0, 1, 0, 0, 0));
        Check.refuses("no such trip", Check.NUMBER, () -> x.tripCost(3));
        Check.refuses("trip -1", Check.NUMBER, () -> x.tripCost(-1));
    }

    private static void promise30() {
        ChitWright x = Offices.hard();
        Check.due("first", 1000000, x.advance(1, 1000000));
        Check.due("second", 1000001, x.advance(1, 1));
        Check.due("another person", 5, x.advance(0, 5));
        Check.due("staff", 1000001, x.staff(1, 1));
        Check.due("not owed", 0, x.staff(1, 0));
        Check.due("ADVANCES", 1000006, x.account(ADVANCES));
        Check.due("BANK", -1000006, x.account(BANK));
        Check.refuses("person 2", Check.NUMBER, () -> x.advance(2, 0));
        Check.refuses("person -1", Check.NUMBER, () -> x.advance(-1, 1));
        Check.refuses("amount 0", Check.RANGE, () -> x.advance(0, 0));
        Check.refuses("amount 1000001", Check.RANGE, () -> x.advance(0, 1000001));
    }

    private static void promise31() {
        ChitWright x = Offices.soft();
        Check.due("nothing", 0, x.settle(0));
        x.trip(1, 0, 0, 1, 0, 0, 10);
        x.advance(1, 100);
        x.advance(0, 77);
        Check.due("300 less 100", 200, x.settle(1));
        Check.due("owed nothing", 0, x.staff(1, 0));
        Check.due("no advances", 0, x.staff(1, 1));
        Check.due("STAFF", 0, x.account(STAFF));
        Check.due("ADVANCES of the other one", 77, x.account(ADVANCES));
        Check.due("BANK", -377, x.account(BANK));
        Check.due("they pay", -77, x.settle(0));
        Check.due("BANK then", -300, x.account(BANK));
        int entry = x.card(1, 50);
        x.tell(entry, 0, 20);
        x.advance(1, 5);
        Check.due("the private part too", -25, x.settle(1));
        Check.due("STAFF then", 0, x.account(STAFF));
        Check.due("twice", 0, x.settle(1));
        Check.refuses("person 2", Check.NUMBER, () -> x.settle(2));
        Check.refuses("person -1", Check.NUMBER, () -> x.settle(-1));
    }

    private static void promise32() {
        ChitWright x = Offices.soft();
        Check.refuses("person 2", Check.NUMBER, () -> x.card(2, 0));
        Check.refuses("person -1", Check.NUMBER, () -> x.card(-1, 1));
        Check.refuses("amount 0", Check.RANGE, () -> x.card(0, 0));
        Check.refuses("amount 1000001", Check.RANGE, () -> x.card(0, 1000001));
        for (int i = 0; i < 40; i++) {
            Check.due("entry", i, x.card(i % 2, 1000000));
        }
        Check.refuses("a 41st", Check.STATE, () -> x.card(0, 1));
        Check.refuses("a 41st, out of range", Check.RANGE, () -> x.card(0, 0));
        Check.refuses("a 41st of nobody", Check.NUMBER, () -> x.card(2, 1));
        Check.due("open", false, x.isTold(39));
        Check.due("nothing in the accounts", 0, x.account(CARD));
        Check.due("nothing to pay", 0, x.payCard());
    }

    private static void promise33() {
        ChitWright x = Offices.hard();
        x.budget(2, 0, 70);
        x.card(1, 100);
        x.card(0, 50);
        Check.refuses("entry 2", Check.NUMBER, () -> x.tell(2, 2, 0));
        Check.refuses("entry -1", Check.NUMBER, () -> x.tell(-1, 2, 0));
        Check.refuses("centre 6", Check.NUMBER, () -> x.tell(0, 6, -1));
        Check.refuses("centre -1", Check.NUMBER, () -> x.tell(0, -1, 0));
        Check.refuses("own -1", Check.RANGE, () -> x.tell(0, 2, -1));
        Check.refuses("own 101", Check.RANGE, () -> x.tell(0, 2, 101));
        Check.refuses("not free", Check.STATE, () -> x.tell(0, 2, 29));
        Check.due("open", false, x.isTold(0));
        Check.due("what is spent", 70, x.tell(0, 2, 30));
        Check.due("told", true, x.isTold(0));
        Check.due("spent", 70, x.centre(2, 0, 2));
        Check.due("the person owes", -30, x.staff(1, 0));
        Check.due("COST", 70, x.account(COST));
        Check.due("STAFF", 30, x.account(STAFF));
        Check.due("CARD", -100, x.account(CARD));
        Check.refuses("it was told", Check.STATE, () -> x.tell(0, 2, 100));
        Check.refuses("it was told, out of range", Check.RANGE, () -> x.tell(0, 2, 101));
        x.pass(360);
        Check.due("all of it private", 0, x.tell(1, 2, 50));
        Check.due("the other person owes", -50, x.staff(0, 0));
        x.card(0, 9);
        x.soft(2, true);
        Check.due("the year of now", 9, x.tell(2, 2, 0));
        Check.due("spent there", 9, x.centre(2, 1, 2));
        Check.refuses("isTold(3)", Check.NUMBER, () -> x.isTold(3));
        Check.refuses("isTold(-1)", Check.NUMBER, () -> x.isTold(-1));
    }

    private static void promise34() {
        ChitWright x = Offices.soft();
        x.card(0, 100);
        x.card(1, 200);
        x.card(1, 400);
        x.tell(0, 0, 10);
        x.tell(2, 1, 400);
        Check.due("all that was told", 500, x.payCard());
        Check.due("CARD", 0, x.account(CARD));
        Check.due("BANK", -500, x.account(BANK));
        Check.due("since then", 0, x.payCard());
        x.tell(1, 0, 0);
        Check.due("then", 200, x.payCard());
        Check.due("BANK then", -700, x.account(BANK));
    }

    private static ChitWright withMuchToSample() {
        ChitWright x = Offices.soft();
        for (int i = 0; i < 40; i++) {
            x.card(0, 1);
        }
        for (int i = 0; i < 30; i++) {
            x.trip(0, 0, 0, 1, 0, 0, 0);
        }
        int r = Offices.ordered(x, 0, true, 99, 1);
        for (int i = 0; i < 60; i++) {
            x.invoice(r, 0, 1, 1);
        }
        return x;
    }

    private static void promise35() {
        ChitWright x = withMuchToSample();
        Check.due("none at first", 0, sampled(x, 0, 60) + sampled(x, 1, 30) + sampled(x, 2, 40));
        Check.refuses("percents -1", Check.RANGE, () -> x.sample(1, -1));
        Check.refuses("percents 101", Check.RANGE, () -> x.sample(1, 101));
        x.sample(12345, 100);
        Check.due("all", 130, sampled(x, 0, 60) + sampled(x, 1, 30) + sampled(x, 2, 40));
        x.sample(45458, 39);
        Check.due("the last seed ahead of a carry", true, x.isSampled(0, 1));
        x.sample(45459, 39);
        Check.due("with the carry", false, x.isSampled(0, 1));
        Check.refuses("kind 3", Check.RANGE, () -> x.isSampled(3, 99));
        Check.refuses("kind -1", Check.RANGE, () -> x.isSampled(-1, -1));
        Check.refuses("invoice 60", Check.NUMBER, () -> x.isSampled(0, 60));
        Check.refuses("trip 30", Check.NUMBER, () -> x.isSampled(1, 30));
        Check.refuses("entry 40", Check.NUMBER, () -> x.isSampled(2, 40));
        Check.refuses("entry -1", Check.NUMBER, () -> x.isSampled(2, -1));
        asWritten(Integer.MAX_VALUE, 40);
        asWritten(Integer.MIN_VALUE, 1);
        asWritten(-7, 99);
        asWritten(1234567890, 50);
        asWritten(-987654321, 50);
        asWritten(12345, 0);
    }

    private static int sampled(ChitWright x, int kind, int count) {
        int sampled = 0;
        for (int i = 0; i < count; i++) {
            sampled += x.isSampled(kind, i) ? 1 : 0;
        }
        return sampled;
    }

    private static void asWritten(int seed, int percents) {
        ChitWright x = withMuchToSample();
        x.sample(seed, percents);
        int[] counts = {60, 30, 40};
        for (int kind = 0; kind < 3; kind++) {
            for (int n = 0; n < counts[kind]; n++) {
                long wide = 1103515245L * (100L * kind + n) + seed;
                long high = (wide & 0xffffffffL) / 65536;
                Check.due("sample " + kind + " " + n, high % 100 < percents, x.isSampled(kind, n));
            }
        }
    }
}
