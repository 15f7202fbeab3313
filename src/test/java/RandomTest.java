/** What holds at any time, over runs of random calls: nothing but the documented exceptions, and books that agree. */
final class RandomTest {
    private static final int RUNS = 700;
    private static final int CALLS = 220;
    private static final int STEP = 44;

    private RandomCalls made;
    private ChitWright x;

    public static void main(String[] args) {
        for (int seed = 1; seed <= RUNS; seed++) {
            for (int calls = STEP; calls <= CALLS; calls += STEP) {
                new RandomTest().play(seed, calls).books();
                new RandomTest().play(seed, calls).commitments();
                new RandomTest().play(seed, calls).matching();
            }
            new RandomTest().play(seed, CALLS).approvals();
        }
        Check.close("RandomTest");
    }

    /** Makes the office of a seed anew for each look at it: so no object has more calls than are promised. */
    private RandomTest play(int seed, int calls) {
        x = new ChitWright();
        made = new RandomCalls(x, seed);
        boolean isRich = made.coin();
        for (int c = 0; c < 6; c++) {
            x.soft(c, made.coin());
            x.budget(c, 0, isRich ? 100000000 : made.below(200000));
        }
        for (int i = 0; i < calls; i++) {
            Check.due("the machine threw, seed " + seed, false, made.call().equals("RuntimeException"));
        }
        return this;
    }

    private void books() {
        long sum = 0;
        for (int a = 0; a < 9; a++) {
            sum += x.account(a);
        }
        Check.due("the accounts are 0 together", 0, sum);
        long owed = 0;
        for (int i = 0; i < made.invoices; i++) {
            owed += x.invoiceOf(i, 5);
        }
        Check.due("OWED is what is owed for invoices", -owed, x.account(ChitWright.OWED));
        long staff = 0;
        long advances = 0;
        for (int p = 0; p < made.persons; p++) {
            staff += x.staff(p, 0);
            advances += x.staff(p, 1);
        }
        Check.due("STAFF is what persons are owed", -staff, x.account(ChitWright.STAFF));
        Check.due("ADVANCES are those of persons", advances, x.account(ChitWright.ADVANCES));
        long spent = 0;
        for (int c = 0; c < 6; c++) {
            for (int y = 0; y < 3; y++) {
                spent += x.centre(c, y, 2);
                long free = x.centre(c, y, 0) - x.centre(c, y, 1) - x.centre(c, y, 2);
                Check.due("free", free, x.centre(c, y, 3));
            }
        }
        Check.due("COST is what was spent", spent, x.account(ChitWright.COST));
    }

    private void commitments() {
        long[][] committed = new long[6][3];
        int year = x.day() / 360;
        for (int r = 0; r < made.requests; r++) {
            long of = x.requestOf(r, 2);
            long s = x.requestOf(r, 0);
            if (of > 0) {
                committed[made.centreOf[r]][(int) x.requestOf(r, 3)] += of;
            }
            if (s == ChitWright.SENT || s == ChitWright.APPROVED) {
                Check.due("the total is committed", x.requestOf(r, 1), of);
            }
            if (s == ChitWright.DRAFT || s == ChitWright.REFUSED || s == ChitWright.ENDED) {
                Check.due("nothing is committed", 0, of);
            } else {
                Check.due("its year is the one of now", year, x.requestOf(r, 3));
            }
            Check.due("SENT is what has to be approved", s == ChitWright.SENT, x.requestOf(r, 4) > 0);
            Check.due("ordered from somebody", s == ChitWright.ORDERED || s == ChitWright.ENDED, x.requestOf(r, 5) >= 0);
        }
        for (int c = 0; c < 6; c++) {
            for (int y = 0; y < 3; y++) {
                Check.due("the commitment is that of the requests", committed[c][y], x.centre(c, y, 1));
            }
        }
    }

    private void matching() {
        int[][] booked = new int[40][4];
        int[][] held = new int[40][4];
        for (int i = 0; i < made.invoices; i++) {
            boolean isHeld = x.invoiceOf(i, 0) == ChitWright.HELD;
            (isHeld ? held : booked)[made.requestOf[i]][made.lineOf[i]] += made.piecesOf[i];
            Check.due("held for something", isHeld, x.invoiceOf(i, 1) > 0);
            Check.due("due if booked", isHeld, x.invoiceOf(i, 6) < 0);
            Check.due("PAID and stopped", false, x.invoiceOf(i, 0) == ChitWright.PAID && x.invoiceOf(i, 7) == 1);
        }
        for (int r = 0; r < made.requests; r++) {
            for (int l = 0; l < made.lines[r]; l++) {
                int received = x.lineOf(r, l, 2);
                int quantity = x.lineOf(r, l, 0);
                Check.due("pieces on booked ones", booked[r][l], x.lineOf(r, l, 3));
                Check.due("pieces on held ones", held[r][l], x.lineOf(r, l, 4));
                Check.due("no more booked than received", true, booked[r][l] <= (made.isService[r][l] ? quantity : received));
                Check.due("no more received than its quantity", true, received <= quantity);
            }
        }
    }

    /** Who is next can approve, and if there is nobody, nobody can. */
    private void approvals() {
        for (int r = 0; r < made.requests; r++) {
            for (int step = 0; step < 14 && x.requestOf(r, 0) == ChitWright.SENT; step++) {
                int who = x.next(r);
                long missing = x.requestOf(r, 4);
                if (who >= 0) {
                    Check.due("the next one approves", missing - 1, x.approve(r, who));
                } else {
                    nobody(r);
                    break;
                }
            }
        }
    }

    private void nobody(int request) {
        for (int p = 0; p < made.persons; p++) {
            int who = p;
            Check.refuses("nobody can approve", Check.STATE, () -> x.approve(request, who));
        }
    }
}
