/** Random calls of an office, the same ones for the same seed; what no question tells of the things made is kept. */
final class RandomCalls {
    private interface Asked {
        void at(int number);
    }

    final ChitWright x;
    private long state;
    int persons;
    int requests;
    int invoices;
    int trips;
    int entries;
    final int[] centreOf = new int[40];
    final int[] lines = new int[40];
    final boolean[][] isService = new boolean[40][4];
    final int[] requestOf = new int[60];
    final int[] lineOf = new int[60];
    final int[] piecesOf = new int[60];

    RandomCalls(ChitWright x, long seed) {
        this.x = x;
        state = seed;
    }

    /** Finds out how much there is in an office that was not made by these calls. */
    RandomCalls lookAround() {
        persons = count(12, n -> x.staff(n, 0));
        requests = count(40, n -> x.requestOf(n, 0));
        invoices = count(60, n -> x.invoiceOf(n, 0));
        trips = count(30, n -> x.tripCost(n));
        entries = count(40, n -> x.isTold(n));
        for (int i = 0; i < requests; i++) {
            lines[i] = 2;
        }
        return this;
    }

    private static int count(int most, Asked question) {
        int low = 0;
        int high = most;
        while (low < high) {
            int middle = (low + high) / 2;
            if (Check.thrownBy(() -> question.at(middle)) == null) {
                low = middle + 1;
            } else {
                high = middle;
            }
        }
        return low;
    }

    int below(int bound) {
        state = state * 6364136223846793005L + 1442695040888963407L;
        return (int) ((state >>> 33) % bound);
    }

    boolean coin() {
        return below(2) == 0;
    }

    /** Mostly a number there is, at times one beside. */
    private int one(int count) {
        return below(30) == 0 ? below(2) == 0 ? -1 : count : count == 0 ? 0 : below(count);
    }

    private int amount(int lowest, int highest) {
        return below(40) == 0 ? below(2) == 0 ? lowest - 1 : highest + 1 : lowest + below(highest - lowest + 1);
    }

    /** Makes a call, and tells its answer, or what it threw. */
    String call() {
        long[] answer = new long[1];
        int kind = below(40);
        Class<?> thrown = Check.thrownBy(() -> answer[0] = answer(kind));
        return thrown == null ? Long.toString(answer[0]) : thrown.getSimpleName();
    }

    private long answer(int kind) {
        if (kind < 12) {
            return office(kind);
        }
        if (kind < 25) {
            return requesting(kind);
        }
        return kind < 33 ? ordering(kind) : travelling(kind);
    }

    private long office(int kind) {
        switch (kind) {
            case 0: case 1:
                int number = x.person(coin() ? -1 : one(persons), coin() ? amount(0, 200000) : amount(0, 10000000));
                persons++;
                return number;
            case 2:
                x.absent(one(persons), amount(0, 1079), one(persons));
                return 0;
            case 3: return x.controller(one(persons));
            case 4: return x.budget(one(6), one(3), coin() ? amount(0, 100000000) : amount(0, 100000));
            case 5: return x.transfer(one(6), one(6), one(3), amount(1, 100000));
            case 6: return x.soft(one(6), coin()) ? 1 : 0;
            case 7: return x.carried(amount(0, 100));
            case 8:
                x.supplier(one(6), one(3), one(3), amount(0, 90), amount(0, 10), amount(0, 30));
                return 0;
            case 9: return x.rate(one(3), amount(100, 10000));
            case 10:
                x.taxes(amount(0, 30), amount(0, 100));
                return 0;
            default: return x.pass(amount(1, coin() ? 20 : 360));
        }
    }

    private long requesting(int kind) {
        int r = one(requests);
        switch (kind) {
            case 12: case 13:
                int c = one(6);
                int number = x.request(one(persons), c);
                centreOf[number] = c;
                requests++;
                lines[number] = 0;
                return putLine(number, 1 + below(99), 1 + below(1000));
            case 14: return putLine(r, amount(1, 99), amount(1, 100000));
            case 15: case 16: return x.send(r);
            case 17: case 18: case 19: return x.approve(r, coin() ? x.next(r) : one(persons));
            case 20:
                x.refuse(r, one(persons));
                return 0;
            case 21: return x.edit(r, one(lines(r)), amount(1, 99));
            default:
                x.order(r, one(6));
                return 0;
        }
    }

    private int lines(int request) {
        return request >= 0 && request < requests ? lines[request] : 0;
    }

    private int putLine(int request, int quantity, int price) {
        boolean service = coin();
        int count = x.line(request, service, quantity, price);
        lines[request] = count;
        isService[request][count - 1] = service;
        return count;
    }

    private long ordering(int kind) {
        int r = one(requests);
        int l = one(lines(r));
        switch (kind) {
            case 25: case 26: return x.receive(r, l, amount(-10, 99));
            case 27: return x.change(r, l, amount(1, 99));
            case 28: return x.end(r);
            case 29: case 30: return invoice(r, l);
            case 31: return x.letGo(one(invoices), one(persons)) ? 1 : 0;
            default: return x.run(amount(0, 2000), coin());
        }
    }

    private int invoice(int request, int line) {
        int pieces = amount(1, 30);
        int price = coin() ? amount(1, 100000) : Math.max(1, x.lineOf(request, line, 1) * (90 + below(20)) / 100);
        int number = x.invoice(request, line, pieces, price);
        invoices++;
        requestOf[number] = request;
        lineOf[number] = line;
        piecesOf[number] = pieces;
        return number;
    }

    private long travelling(int kind) {
        switch (kind) {
            case 33: return x.bounce(one(invoices));
            case 34:
                x.goOn(one(invoices));
                return 0;
            case 35: return x.place(one(4), amount(0, 50000));
            case 36: return trip();
            case 37: return x.advance(one(persons), amount(1, 1000000));
            case 38:
                int number = x.card(one(persons), coin() ? amount(1, 500) : amount(1, 1000000));
                entries++;
                return number;
            default:
                if (coin()) {
                    return x.tell(one(entries), one(6), amount(0, 500));
                }
                return coin() ? x.settle(one(persons)) : x.payCard();
        }
    }

    private int trip() {
        int number = x.trip(one(persons), one(6), one(4), amount(1, 30), amount(0, 3), amount(0, 6), amount(0, 5000));
        trips++;
        return number;
    }
}
