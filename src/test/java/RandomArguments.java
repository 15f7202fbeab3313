/** Random arguments for a call of any name: mostly such ones that an office as it stands takes, at times some beside. */
final class RandomArguments {
    private static final int DRAFT = ChitWright.DRAFT, SENT = ChitWright.SENT, APPROVED = ChitWright.APPROVED;
    private static final int REFUSED = ChitWright.REFUSED, ORDERED = ChitWright.ORDERED, ENDED = ChitWright.ENDED;
    private static final int HELD = ChitWright.HELD, BOOKED = ChitWright.BOOKED, PAID = ChitWright.PAID;
    private static final int[] ROUND = {100, 1000, 2000, 5000, 10000, 20000, 50000, 100000};
    private static final int[] LIMITS = {0, 1000, 10000, 50000, 99999, 100000, 100001, 200000};

    private final SecondReading office;
    private final boolean isRich;
    private final boolean isDear;
    private long state;

    RandomArguments(SecondReading office, long seed) {
        this.office = office;
        state = seed;
        below(2);
        isRich = coin();
        isDear = coin();
    }

    int below(int bound) {
        state = state * 6364136223846793005L + 1442695040888963407L;
        return (int) ((state >>> 33) % bound);
    }

    boolean coin() {
        return below(2) == 0;
    }

    String oneOf(String[] names) {
        return names[below(names.length)];
    }

    /** What the first calls of a run are for: some persons, centres with budgets, suppliers, moneys and places. */
    String settingUp(int call) {
        String[] names = {"person", "person", "budget", "soft", "supplier", "rate", "place", "budget"};
        return names[call % names.length];
    }

    Object[] arguments(String name, Class<?>[] types) {
        int[] a = numbers(name);
        Object[] arguments = new Object[types.length];
        for (int i = 0; i < types.length; i++) {
            boolean isFlag = types[i] == boolean.class;
            arguments[i] = isFlag ? (Object) (a[i] % 2 == 0) : (Object) a[i];
        }
        return arguments;
    }

    /** Mostly a number there is, at times one beside. */
    private int one(int count) {
        if (below(60) == 0) {
            return coin() ? -1 : count;
        }
        return count == 0 ? 0 : below(count);
    }

    private int from(int lowest, int highest) {
        switch (below(60)) {
            case 0: return lowest - 1;
            case 1: return highest + 1;
            case 2: case 3: return lowest;
            case 4: case 5: return highest;
            default: return lowest + below(highest - lowest + 1);
        }
    }

    private int person() {
        return one(office.people.size());
    }

    /** Mostly a request in one of two states. */
    private int paper(int one, int other) {
        for (int tries = 0; tries < 12; tries++) {
            int number = one(office.papers.size());
            if (number >= 0 && number < office.papers.size()) {
                int state = office.papers.get(number).state;
                if (state == one || state == other) {
                    return number;
                }
            }
        }
        return one(office.papers.size());
    }

    private int lineOf(int paper) {
        return one(paper < 0 || paper >= office.papers.size() ? 1 : office.papers.get(paper).parts.size());
    }

    private int bill(int one, int other) {
        for (int tries = 0; tries < 12; tries++) {
            int number = one(office.bills.size());
            if (number >= 0 && number < office.bills.size()) {
                int state = office.bills.get(number).state;
                if (state == one || state == other) {
                    return number;
                }
            }
        }
        return one(office.bills.size());
    }

    private int[] numbers(String name) {
        switch (name) {
            case "person": return new int[] {below(4) == 0 ? -1 : person(), coin() ? LIMITS[below(8)] : from(0, coin() ? 200000 : 10000000)};
            case "absent": return new int[] {person(), coin() ? Math.min(1079, office.now + below(40)) : from(0, 1079), person()};
            case "controller": return new int[] {person()};
            case "budget": return new int[] {one(6), coin() ? 0 : one(3), isRich || coin() ? from(0, 100000000) : from(0, 100000)};
            case "transfer": return new int[] {one(6), one(6), coin() ? office.now / 360 : one(3), from(1, coin() ? 100000 : 100000000)};
            case "soft": return new int[] {one(6), isRich ? 0 : below(2)};
            case "carried": return new int[] {from(0, 100)};
            case "supplier": return new int[] {one(6), one(3), one(3), from(0, 90), from(0, 10), from(0, 30)};
            case "rate": return new int[] {one(3), from(100, coin() ? 1500 : 10000)};
            case "taxes": return new int[] {from(0, 30), from(0, 100)};
            case "pass": return new int[] {below(3) == 0 ? from(1, 20) : below(15) == 0 ? from(1, 360) : 1 + below(3)};
            case "sample": return new int[] {(int) (state >>> 16), from(0, 100)};
            case "account": return new int[] {one(9)};
            case "isSampled":
                int kind = one(3);
                return new int[] {kind, one(kind == 0 ? office.bills.size() : kind == 1 ? office.tours.size() : office.slips.size())};
            case "centre": return new int[] {one(6), below(3) == 0 ? one(3) : office.now / 360, one(4)};
            default: return name.equals("payCard") || name.equals("day") ? new int[0] : numbersOfPapers(name);
        }
    }

    private int[] numbersOfPapers(String name) {
        int open = paper(SENT, SENT);
        int ordered = paper(ORDERED, ORDERED);
        switch (name) {
            case "request": return new int[] {below(3) == 0 ? 0 : person(), one(6)};
            case "line":
                boolean isRound = below(3) == 0;
                int price = isRound ? ROUND[below(8)] : from(1, isDear && below(4) > 0 ? 100000 : 1000);
                return new int[] {paper(DRAFT, DRAFT), below(2), isRound ? 1 + below(2) * 9 : from(1, 99), price};
            case "send": return new int[] {paper(DRAFT, DRAFT)};
            case "approve": return new int[] {open, below(3) > 0 ? nextOf(open) : person()};
            case "refuse": return new int[] {open, below(3) > 0 ? nextOf(open) : person()};
            case "edit":
                int edited = below(4) == 0 ? paper(APPROVED, SENT) : paper(REFUSED, DRAFT);
                return new int[] {edited, lineOf(edited), from(1, 99)};
            case "order": return new int[] {paper(APPROVED, APPROVED), one(6)};
            case "end": return new int[] {ordered};
            case "receive": return new int[] {ordered, lineOf(ordered), below(4) == 0 ? -1 - below(5) : below(15) == 0 ? from(-99, 99) : from(1, 20)};
            case "change":
                int line = lineOf(ordered);
                return new int[] {ordered, line, coin() ? from(1, 99) : quantity(ordered, line) + below(7) - 3};
            case "invoice":
                int on = lineOf(ordered);
                return new int[] {ordered, on, from(1, coin() ? 12 : 99), below(4) == 0 ? from(1, 100000) : nearPrice(ordered, on)};
            case "next": return new int[] {paper(SENT, DRAFT)};
            case "requestOf": return new int[] {one(office.papers.size()), one(6)};
            case "lineOf":
                int asked = paper(ORDERED, ENDED);
                return new int[] {asked, lineOf(asked), one(5)};
            default: return numbersOfMoney(name);
        }
    }

    private int nextOf(int paper) {
        return paper < 0 || paper >= office.papers.size() ? 0 : office.next(paper);
    }

    private SecondReading.Part part(int paper, int line) {
        boolean isThere = paper >= 0 && paper < office.papers.size() && line >= 0 && line < office.papers.get(paper).parts.size();
        return isThere ? office.papers.get(paper).parts.get(line) : new SecondReading.Part();
    }

    private int quantity(int paper, int line) {
        return part(paper, line).quantity;
    }

    /** About the price of the line, in home money or in the money of the supplier as if 1000 of it were some 1300. */
    private int nearPrice(int paper, int line) {
        long price = part(paper, line).price;
        return (int) Math.max(1, Math.min(100000, price * (93 + below(14)) / (coin() ? 100 : 130)));
    }

    private int[] numbersOfMoney(String name) {
        int entry = one(office.slips.size());
        int days = from(1, 30);
        switch (name) {
            case "letGo": return new int[] {bill(HELD, HELD), below(4) == 0 ? person() : office.controllerNow};
            case "run": return new int[] {coin() ? office.now + below(20) : from(0, 2000), below(2)};
            case "bounce": return new int[] {bill(PAID, PAID)};
            case "goOn": return new int[] {stopped()};
            case "place": return new int[] {one(4), coin() ? from(0, 50000) : from(0, 50)};
            case "trip": return new int[] {person(), one(6), one(4), days, from(0, days), from(0, Math.max(0, 2 * days)), below(9) == 0 ? from(0, 5000) : below(50)};
            case "advance": return new int[] {person(), coin() ? from(1, 10000) : from(1, 1000000)};
            case "card": return new int[] {person(), coin() ? from(1, 500) : from(1, 1000000)};
            case "tell": return new int[] {entry, one(6), entry < 0 || entry >= office.slips.size() ? 0 : from(0, office.slips.get(entry).amount)};
            case "invoiceOf": return new int[] {coin() ? one(office.bills.size()) : bill(BOOKED, PAID), one(8)};
            case "staff": return new int[] {person(), one(2)};
            case "settle": return new int[] {person()};
            case "tripCost": return new int[] {one(office.tours.size())};
            case "isTold": return new int[] {entry};
            default: throw new IllegalStateException("no arguments for " + name);
        }
    }

    private int stopped() {
        for (int tries = 0; tries < 12; tries++) {
            int number = one(office.bills.size());
            if (number >= 0 && number < office.bills.size() && office.bills.get(number).stopped) {
                return number;
            }
        }
        return one(office.bills.size());
    }
}
