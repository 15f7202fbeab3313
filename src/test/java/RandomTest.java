/** What holds at any time, over runs of random calls: nothing but the documented exceptions, and books that agree. */
final class RandomTest {
    private static final int RUNS = 400;
    private static final int CALLS = 400;

    private long state;
    private ChitWright x;
    private int persons;
    private int requests;
    private int invoices;
    private int trips;
    private int entries;
    private final int[] centreOf = new int[40];
    private final int[] lines = new int[40];
    private final boolean[][] isService = new boolean[40][4];
    private final int[] requestOf = new int[60];
    private final int[] lineOf = new int[60];
    private final int[] piecesOf = new int[60];

    public static void main(String[] args) {
        for (int seed = 1; seed <= RUNS; seed++) {
            new RandomTest().play(seed);
        }
        Check.close("RandomTest");
    }

    private int below(int bound) {
        state = state * 6364136223846793005L + 1442695040888963407L;
        return (int) ((state >>> 33) % bound);
    }

    /** Mostly a number there is, at times one beside. */
    private int one(int count) {
        return below(30) == 0 ? below(2) == 0 ? -1 : count : count == 0 ? 0 : below(count);
    }

    private int amount(int lowest, int highest) {
        return below(40) == 0 ? below(2) == 0 ? lowest - 1 : highest + 1 : lowest + below(highest - lowest + 1);
    }

    private boolean coin() {
        return below(2) == 0;
    }

    private void play(int seed) {
        state = seed;
        x = new ChitWright();
        boolean isRich = coin();
        for (int c = 0; c < 6; c++) {
            if (coin()) {
                x.soft(c, true);
            }
            x.budget(c, 0, isRich ? 100000000 : below(200000));
        }
        for (int i = 0; i < CALLS; i++) {
            String before = i % 16 == 0 ? Offices.picture(x) : null;
            boolean threw = !call();
            if (threw && before != null) {
                Check.due("unchanged by a call that throws, seed " + seed, true, before.equals(Offices.picture(x)));
            }
            if (i % 16 == 15) {
                holds();
            }
        }
        approvals();
    }

    private boolean call() {
        try {
            int kind = below(40);
            if (kind < 12) {
                office(kind);
            } else if (kind < 25) {
                requesting(kind);
            } else if (kind < 33) {
                ordering(kind);
            } else {
                travelling(kind);
            }
            return true;
        } catch (IndexOutOfBoundsException | IllegalArgumentException | IllegalStateException e) {
            Check.due("thrown by throw alone: " + e, true, isPlain(e));
            return false;
        }
    }

    private static boolean isPlain(RuntimeException e) {
        return Check.isThrownByHand(e) && (e.getClass() == Check.NUMBER || e.getClass() == Check.RANGE || e.getClass() == Check.STATE);
    }

    private void office(int kind) {
        switch (kind) {
            case 0: case 1: persons = x.person(coin() ? -1 : one(persons), coin() ? amount(0, 200000) : amount(0, 10000000)) + 1; break;
            case 2: x.absent(one(persons), amount(0, 1079), one(persons)); break;
            case 3: x.controller(one(persons)); break;
            case 4: x.budget(one(6), one(3), coin() ? amount(0, 100000000) : amount(0, 100000)); break;
            case 5: x.transfer(one(6), one(6), one(3), amount(1, 100000)); break;
            case 6: x.soft(one(6), coin()); break;
            case 7: x.carried(amount(0, 100)); break;
            case 8: x.supplier(one(6), one(3), one(3), amount(0, 90), amount(0, 10), amount(0, 30)); break;
            case 9: x.rate(one(3), amount(100, 10000)); break;
            case 10: x.taxes(amount(0, 30), amount(0, 100)); break;
            default: x.pass(amount(1, coin() ? 20 : 360)); break;
        }
    }

    private void requesting(int kind) {
        int r = one(requests);
        switch (kind) {
            case 12: case 13:
                int c = one(6);
                requests = x.request(one(persons), c) + 1;
                centreOf[requests - 1] = c;
                putLine(requests - 1, 1 + below(99), 1 + below(1000));
                break;
            case 14: putLine(r, amount(1, 99), amount(1, 100000)); break;
            case 15: case 16: x.send(r); break;
            case 17: case 18: case 19: x.approve(r, coin() ? x.next(r) : one(persons)); break;
            case 20: x.refuse(r, one(persons)); break;
            case 21: x.edit(r, one(lines(r)), amount(1, 99)); break;
            default: x.order(r, one(6)); break;
        }
    }

    private int lines(int request) {
        return request >= 0 && request < requests ? lines[request] : 0;
    }

    private void putLine(int request, int quantity, int price) {
        boolean service = coin();
        int count = x.line(request, service, quantity, price);
        lines[request] = count;
        isService[request][count - 1] = service;
    }

    private void ordering(int kind) {
        int r = one(requests);
        int l = one(lines(r));
        switch (kind) {
            case 25: case 26: x.receive(r, l, amount(-10, 99)); break;
            case 27: x.change(r, l, amount(1, 99)); break;
            case 28: x.end(r); break;
            case 29: case 30:
                int pieces = amount(1, 30);
                int price = coin() ? amount(1, 100000) : Math.max(1, x.lineOf(r, l, 1) * (90 + below(20)) / 100);
                invoices = x.invoice(r, l, pieces, price) + 1;
                requestOf[invoices - 1] = r;
                lineOf[invoices - 1] = l;
                piecesOf[invoices - 1] = pieces;
                break;
            case 31: x.letGo(one(invoices), one(persons)); break;
            default: x.run(amount(0, 2000), coin()); break;
        }
    }

    private void travelling(int kind) {
        switch (kind) {
            case 33: x.bounce(one(invoices)); break;
            case 34: x.goOn(one(invoices)); break;
            case 35: x.place(one(4), amount(0, 50000)); break;
            case 36: trips = x.trip(one(persons), one(6), one(4), amount(1, 30), amount(0, 3), amount(0, 6), amount(0, 5000)) + 1; break;
            case 37: x.advance(one(persons), amount(1, 1000000)); break;
            case 38: entries = x.card(one(persons), coin() ? amount(1, 500) : amount(1, 1000000)) + 1; break;
            default:
                if (coin()) {
                    x.tell(one(entries), one(6), amount(0, 500));
                } else if (coin()) {
                    x.settle(one(persons));
                } else {
                    x.payCard();
                }
                break;
        }
    }

    private void holds() {
        books();
        commitments();
        matching();
    }

    private void books() {
        long sum = 0;
        for (int a = 0; a < 9; a++) {
            sum += x.account(a);
        }
        Check.due("the accounts are 0 together", 0, sum);
        long owed = 0;
        for (int i = 0; i < invoices; i++) {
            owed += x.invoiceOf(i, 5);
        }
        Check.due("OWED is what is owed for invoices", -owed, x.account(ChitWright.OWED));
        long staff = 0;
        long advances = 0;
        for (int p = 0; p < persons; p++) {
            staff += x.staff(p, 0);
            advances += x.staff(p, 1);
        }
        Check.due("STAFF is what persons are owed", -staff, x.account(ChitWright.STAFF));
        Check.due("ADVANCES are those of persons", advances, x.account(ChitWright.ADVANCES));
        long spent = 0;
        for (int c = 0; c < 6; c++) {
            for (int y = 0; y < 3; y++) {
                spent += x.centre(c, y, 2);
                long free = x.centre(c, y, 0) - x.centre(c, y, 1) - x.centre(c, y, 2);
                Check.due("free", free, x.centre(c, y, 3));
            }
        }
        Check.due("COST is what was spent", spent, x.account(ChitWright.COST));
    }

    private void commitments() {
        long[][] committed = new long[6][3];
        for (int r = 0; r < requests; r++) {
            long of = x.requestOf(r, 2);
            long s = x.requestOf(r, 0);
            if (of > 0) {
                committed[centreOf[r]][(int) x.requestOf(r, 3)] += of;
            }
            if (s == ChitWright.SENT || s == ChitWright.APPROVED) {
                Check.due("the total is committed", x.requestOf(r, 1), of);
            }
            if (s == ChitWright.DRAFT || s == ChitWright.REFUSED || s == ChitWright.ENDED) {
                Check.due("nothing is committed", 0, of);
            } else {
                Check.due("its year is the one of now", x.day() / 360, x.requestOf(r, 3));
            }
            Check.due("SENT is what has to be approved", s == ChitWright.SENT, x.requestOf(r, 4) > 0);
            Check.due("ordered from somebody", s == ChitWright.ORDERED || s == ChitWright.ENDED, x.requestOf(r, 5) >= 0);
        }
        for (int c = 0; c < 6; c++) {
            for (int y = 0; y < 3; y++) {
                Check.due("the commitment is that of the requests", committed[c][y], x.centre(c, y, 1));
            }
        }
    }

    private void matching() {
        int[][] booked = new int[40][4];
        int[][] held = new int[40][4];
        for (int i = 0; i < invoices; i++) {
            boolean isHeld = x.invoiceOf(i, 0) == ChitWright.HELD;
            (isHeld ? held : booked)[requestOf[i]][lineOf[i]] += piecesOf[i];
            Check.due("held for something", isHeld, x.invoiceOf(i, 1) > 0);
            Check.due("due if booked", isHeld, x.invoiceOf(i, 6) < 0);
            Check.due("PAID and stopped", false, x.invoiceOf(i, 0) == ChitWright.PAID && x.invoiceOf(i, 7) == 1);
        }
        for (int r = 0; r < requests; r++) {
            for (int l = 0; l < lines[r]; l++) {
                Check.due("pieces on booked ones", booked[r][l], x.lineOf(r, l, 3));
                Check.due("pieces on held ones", held[r][l], x.lineOf(r, l, 4));
                int most = x.lineOf(r, l, isService[r][l] ? 0 : 2);
                Check.due("no more booked than received", true, booked[r][l] <= most);
                Check.due("no more received than its quantity", true, x.lineOf(r, l, 2) <= x.lineOf(r, l, 0));
            }
        }
    }

    /** Who is next can approve, and if there is nobody, nobody can. */
    private void approvals() {
        for (int r = 0; r < requests; r++) {
            for (int step = 0; step < 14 && x.requestOf(r, 0) == ChitWright.SENT; step++) {
                int who = x.next(r);
                long missing = x.requestOf(r, 4);
                if (who >= 0) {
                    Check.due("the next one approves", missing - 1, x.approve(r, who));
                } else {
                    nobody(r);
                    break;
                }
            }
        }
    }

    private void nobody(int request) {
        for (int p = 0; p < persons; p++) {
            int who = p;
            Check.refuses("nobody can approve", Check.STATE, x, () -> x.approve(request, who));
        }
    }
}
