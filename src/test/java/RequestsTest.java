/** Promises 13 to 18: requests; with 38 and 39, what is told of them. */
final class RequestsTest {
    private static final int NONE = ChitWright.NONE;

    public static void main(String[] args) {
        promise13();
        promise14();
        promise15();
        chains();
        promise16();
        controllers();
        substitutes();
        promise17();
        promise18();
        Check.close("RequestsTest");
    }

    private static void promise13() {
        ChitWright x = Offices.hard();
        Check.refuses("person 2", Check.NUMBER, () -> x.request(2, 0));
        Check.refuses("person -1", Check.NUMBER, () -> x.request(-1, 0));
        Check.refuses("centre 6", Check.NUMBER, () -> x.request(0, 6));
        Check.refuses("centre -1", Check.NUMBER, () -> x.request(0, -1));
        for (int i = 0; i < 40; i++) {
            Check.due("request", i, x.request(i % 2, i % 6));
        }
        Check.refuses("a 41st", Check.STATE, () -> x.request(0, 0));
        Check.refuses("a 41st of nobody", Check.NUMBER, () -> x.request(2, 0));
        int[] first = {ChitWright.DRAFT, 0, 0, NONE, 0, NONE};
        for (int w = 0; w < 6; w++) {
            Check.due("a new one, " + w, first[w], x.requestOf(39, w));
        }
        Check.due("nobody approves a DRAFT", NONE, x.next(39));
        Check.refuses("no line", Check.NUMBER, () -> x.lineOf(39, 0, 0));
    }

    private static void promise14() {
        ChitWright x = Offices.soft();
        int r = x.request(0, 0);
        Check.refuses("request 1", Check.NUMBER, () -> x.line(1, true, 0, 0));
        Check.refuses("request -1", Check.NUMBER, () -> x.line(-1, true, 1, 1));
        Check.refuses("quantity 0", Check.RANGE, () -> x.line(r, true, 0, 1));
        Check.refuses("quantity 100", Check.RANGE, () -> x.line(r, true, 100, 1));
        Check.refuses("price 0", Check.RANGE, () -> x.line(r, true, 1, 0));
        Check.refuses("price 100001", Check.RANGE, () -> x.line(r, true, 1, 100001));
        Check.due("1", 1, x.line(r, true, 99, 100000));
        Check.due("2", 2, x.line(r, false, 1, 1));
        Check.due("3", 3, x.line(r, false, 99, 100000));
        Check.due("4", 4, x.line(r, true, 99, 100000));
        Check.refuses("a 5th", Check.STATE, () -> x.line(r, true, 1, 1));
        Check.refuses("a 5th, out of range", Check.RANGE, () -> x.line(r, true, 0, 1));
        Check.due("total", 29700001, x.requestOf(r, 1));
        Check.due("quantity", 1, x.lineOf(r, 1, 0));
        Check.due("price", 100000, x.lineOf(r, 2, 1));
        int sent = Offices.approved(x, 0, true, 1, 1);
        Check.refuses("no DRAFT", Check.STATE, () -> x.line(sent, true, 1, 1));
    }

    private static void promise15() {
        ChitWright x = Offices.hard();
        x.budget(2, 0, 1000);
        int empty = x.request(0, 2);
        Check.refuses("no line", Check.STATE, () -> x.send(empty));
        Check.refuses("request 1", Check.NUMBER, () -> x.send(1));
        Check.refuses("request -1", Check.NUMBER, () -> x.send(-1));
        int r = Offices.draft(x, 2, true, 10, 100);
        Check.due("nobody has to", 0, x.send(r));
        Check.due("APPROVED at once", ChitWright.APPROVED, x.requestOf(r, 0));
        Check.due("committed", 1000, x.requestOf(r, 2));
        Check.due("year", 0, x.requestOf(r, 3));
        Check.due("in the centre", 1000, x.centre(2, 0, 1));
        Check.due("free", 0, x.centre(2, 0, 3));
        Check.refuses("no DRAFT", Check.STATE, () -> x.send(r));
        int more = Offices.draft(x, 2, true, 1, 1);
        Check.refuses("not free", Check.STATE, () -> x.send(more));
        x.pass(360);
        x.budget(2, 1, 1001);
        x.send(more);
        Check.due("the year of now", 1, x.requestOf(more, 3));
        Check.due("in that year", 1001, x.centre(2, 1, 1));
    }

    private static void chains() {
        ChitWright x = new ChitWright();
        x.person(NONE, 10);
        x.person(0, 99999);
        x.person(1, 500);
        x.person(2, 10000000);
        x.soft(0, true);
        Check.due("the limit is enough", 1, sent(x, 3, 500));
        Check.due("one more is not", 2, sent(x, 3, 501));
        Check.due("up to 99999", 2, sent(x, 3, 99999));
        Check.due("the last one, the controller among them", 3, sent(x, 3, 100000));
        Check.due("the own limit is nothing", 1, sent(x, 1, 5));
        Check.due("nobody", 0, sent(x, 0, 99999));
        Check.due("the person is the controller", 0, sent(x, 0, 100000));
        x.controller(3);
        Check.due("the controller alone", 1, sent(x, 0, 100000));
        Check.due("not below 100000", 0, sent(x, 0, 99999));
        Check.due("behind all", 3, sent(x, 2, 100000));
        Check.due("the person is the controller, with bosses", 3, sent(x, 3, 100000));
        x.controller(1);
        Check.due("the controller among the bosses", 3, sent(x, 3, 100000));
    }

    private static int sent(ChitWright x, int person, int total) {
        int r = x.request(person, 0);
        x.line(r, true, 1, total);
        int missing = x.send(r);
        Check.due("requestOf tells it", missing, x.requestOf(r, 4));
        Check.due("state", missing == 0 ? ChitWright.APPROVED : ChitWright.SENT, x.requestOf(r, 0));
        return missing;
    }

    private static ChitWright chainOfThree() {
        ChitWright x = new ChitWright();
        x.person(NONE, 10);
        x.person(0, 10);
        x.person(1, 10);
        x.person(2, 10);
        x.person(NONE, 0);
        x.soft(0, true);
        return x;
    }

    private static int bigOne(ChitWright x, int person) {
        int r = x.request(person, 0);
        x.line(r, true, 2, 50000);
        x.send(r);
        return r;
    }

    private static void promise16() {
        ChitWright x = chainOfThree();
        int r = bigOne(x, 3);
        Check.due("2 begins", 2, x.next(r));
        Check.refuses("1 is not in turn", Check.STATE, () -> x.approve(r, 1));
        Check.refuses("the controller among the bosses is not in turn", Check.STATE, () -> x.approve(r, 0));
        Check.refuses("the person", Check.STATE, () -> x.approve(r, 3));
        Check.refuses("somebody else", Check.STATE, () -> x.approve(r, 4));
        Check.refuses("person 5", Check.NUMBER, () -> x.approve(r, 5));
        Check.refuses("person -1", Check.NUMBER, () -> x.approve(r, -1));
        Check.refuses("request 1", Check.NUMBER, () -> x.approve(1, 2));
        Check.due("2 still", 2, x.approve(r, 2));
        Check.refuses("2 did", Check.STATE, () -> x.approve(r, 2));
        Check.due("1 still", 1, x.approve(r, 1));
        Check.due("0", 0, x.next(r));
        Check.due("all did", 0, x.approve(r, 0));
        Check.due("APPROVED", ChitWright.APPROVED, x.requestOf(r, 0));
        Check.due("nobody has to", 0, x.requestOf(r, 4));
        Check.due("nobody can", NONE, x.next(r));
        Check.due("still committed", 100000, x.requestOf(r, 2));
        Check.refuses("it is not SENT", Check.STATE, () -> x.approve(r, 0));
        int draft = Offices.draft(x, 0, true, 1, 1);
        Check.refuses("a DRAFT", Check.STATE, () -> x.approve(draft, 0));
    }

    private static void controllers() {
        ChitWright x = chainOfThree();
        x.controller(4);
        int r = bigOne(x, 3);
        Check.due("3 bosses and the controller", 4, x.requestOf(r, 4));
        x.controller(0);
        Check.due("the one whose turn it is", 2, x.next(r));
        Check.due("the controller of then, whenever", 3, x.approve(r, 4));
        Check.refuses("only once", Check.STATE, () -> x.approve(r, 4));
        x.approve(r, 2);
        x.approve(r, 1);
        Check.due("all", 0, x.approve(r, 0));
        int late = bigOne(x, 4);
        Check.due("the controller of now alone", 0, x.next(late));
        x.controller(2);
        Check.refuses("2 is the controller too late", Check.STATE, () -> x.approve(late, 2));
        Check.due("0 was", 0, x.approve(late, 0));
        int last = bigOne(x, 1);
        x.approve(last, 0);
        Check.due("behind the bosses", 2, x.next(last));
        Check.due("is the last one", 0, x.approve(last, 2));
    }

    private static void substitutes() {
        ChitWright x = chainOfThree();
        x.controller(4);
        int r = bigOne(x, 3);
        x.absent(2, 5, 4);
        Check.due("4 for 2", 4, x.next(r));
        Check.refuses("2 is absent", Check.STATE, () -> x.approve(r, 2));
        Check.due("4 approves for 2 first", 3, x.approve(r, 4));
        Check.due("1 in turn", 1, x.next(r));
        x.absent(4, 5, 1);
        Check.due("1 for themselves first", 2, x.approve(r, 1));
        Check.refuses("4 is absent", Check.STATE, () -> x.approve(r, 4));
        x.absent(1, 5, 0);
        Check.due("1 for 4, absent or not", 1, x.approve(r, 1));
        Check.due("0 is left", 0, x.approve(r, 0));
        int own = bigOne(x, 3);
        x.absent(2, 5, 3);
        x.absent(4, 0, 1);
        Check.due("nobody for 2, but the controller", 4, x.next(own));
        Check.refuses("the person of the request", Check.STATE, () -> x.approve(own, 3));
        x.approve(own, 4);
        Check.due("nobody", NONE, x.next(own));
        Check.due("three have to", 3, x.requestOf(own, 4));
        for (int p = 0; p < 5; p++) {
            int who = p;
            Check.refuses("nobody can", Check.STATE, () -> x.approve(own, who));
            Check.refuses("nobody can refuse", Check.STATE, () -> x.refuse(own, who));
        }
        int third = bigOne(x, 3);
        x.absent(4, 5, 3);
        Check.due("nobody for the controller either", NONE, x.next(third));
        Check.refuses("nor the controller", Check.STATE, () -> x.approve(third, 4));
        x.pass(5);
        Check.due("there again", 2, x.next(third));
    }

    private static void promise17() {
        ChitWright x = chainOfThree();
        x.controller(4);
        x.budget(0, 0, 200000);
        int r = bigOne(x, 3);
        Check.refuses("1 is not in turn", Check.STATE, () -> x.refuse(r, 1));
        Check.refuses("the person", Check.STATE, () -> x.refuse(r, 3));
        Check.refuses("person 5", Check.NUMBER, () -> x.refuse(r, 5));
        Check.refuses("person -1", Check.NUMBER, () -> x.refuse(r, -1));
        Check.refuses("request 1", Check.NUMBER, () -> x.refuse(1, 2));
        x.refuse(r, 4);
        Check.due("REFUSED", ChitWright.REFUSED, x.requestOf(r, 0));
        Check.due("nothing committed", 0, x.requestOf(r, 2));
        Check.due("the year stays", 0, x.requestOf(r, 3));
        Check.due("nobody has to", 0, x.requestOf(r, 4));
        Check.due("nobody can", NONE, x.next(r));
        Check.due("free again", 200000, x.centre(0, 0, 3));
        Check.refuses("not SENT", Check.STATE, () -> x.refuse(r, 4));
        Check.refuses("no DRAFT", Check.STATE, () -> x.send(r));
        int second = bigOne(x, 3);
        x.approve(second, 4);
        Check.refuses("the controller did", Check.STATE, () -> x.refuse(second, 4));
        x.approve(second, 2);
        Check.refuses("2 did", Check.STATE, () -> x.refuse(second, 2));
        x.absent(1, 9, 4);
        Check.refuses("1 is absent", Check.STATE, () -> x.refuse(second, 1));
        x.refuse(second, 4);
        Check.due("the substitute refused", ChitWright.REFUSED, x.requestOf(second, 0));
        Check.refuses("REFUSED cannot be ordered", Check.STATE, () -> x.order(second, 0));
    }

    private static void promise18() {
        ChitWright x = chainOfThree();
        x.soft(0, false);
        x.budget(0, 0, 250000);
        int r = bigOne(x, 3);
        x.approve(r, 2);
        Check.refuses("request 1", Check.NUMBER, () -> x.edit(1, 0, 0));
        Check.refuses("line 1", Check.NUMBER, () -> x.edit(r, 1, 0));
        Check.refuses("line -1", Check.NUMBER, () -> x.edit(r, -1, 1));
        Check.refuses("quantity 0", Check.RANGE, () -> x.edit(r, 0, 0));
        Check.refuses("quantity 100", Check.RANGE, () -> x.edit(r, 0, 100));
        Check.due("SENT", 2, x.edit(r, 0, 99));
        Check.due("a DRAFT", ChitWright.DRAFT, x.requestOf(r, 0));
        Check.due("free", 250000, x.centre(0, 0, 3));
        Check.due("nothing committed", 0, x.requestOf(r, 2));
        Check.due("the year stays", 0, x.requestOf(r, 3));
        Check.due("none to approve", 0, x.requestOf(r, 4));
        Check.due("nobody can", NONE, x.next(r));
        Check.due("its total", 4950000, x.requestOf(r, 1));
        Check.refuses("too much now", Check.STATE, () -> x.send(r));
        Check.due("a DRAFT again", 99, x.edit(r, 0, 3));
        Check.due("without approvals", 3, x.send(r));
        x.refuse(r, 2);
        Check.due("REFUSED", 3, x.edit(r, 0, 3));
        Check.due("lines can be put in", 2, x.line(r, false, 1, 1));
        x.send(r);
        x.approve(r, 2);
        x.approve(r, 1);
        x.approve(r, 0);
        Check.due("APPROVED", 1, x.edit(r, 1, 2));
        Check.due("a DRAFT once more", ChitWright.DRAFT, x.requestOf(r, 0));
        Check.due("all free", 250000, x.centre(0, 0, 3));
        x.controller(4);
        int smaller = bigOne(x, 3);
        Check.due("with the controller", 4, x.requestOf(smaller, 4));
        x.edit(smaller, 0, 1);
        Check.due("without the controller", 3, x.send(smaller));
        Check.refuses("not the controller any more", Check.STATE, () -> x.approve(smaller, 4));
        int ordered = Offices.ordered(x, 0, true, 1, 1);
        Check.refuses("ORDERED", Check.STATE, () -> x.edit(ordered, 0, 1));
        Check.refuses("ORDERED, out of range", Check.RANGE, () -> x.edit(ordered, 0, 0));
        x.end(ordered);
        Check.refuses("ENDED", Check.STATE, () -> x.edit(ordered, 0, 1));
        int never = Offices.draft(x, 0, true, 1, 1);
        Check.due("one that was never sent", 1, x.edit(never, 0, 5));
        Check.due("no year", NONE, x.requestOf(never, 3));
    }
}
