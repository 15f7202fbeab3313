import java.util.ArrayList;
import java.util.Comparator;
import java.util.List;

/** The document read a second time, in another form: facts are kept as they came, and summed up whenever something is asked. */
final class SecondReading {
    private static final int DRAFT = 0, SENT = 1, APPROVED = 2, REFUSED = 3, ORDERED = 4, ENDED = 5;
    private static final int HELD = 0, BOOKED = 1, PAID = 2;
    private static final int COST = 0, OWED = 1, BANK = 2, TAX = 3, RATES = 4, DISCOUNTS = 5, ADVANCES = 6, CARD = 7, STAFF = 8;

    static final class Human {
        int boss;
        int limit;
        int thereAgain;
        int substitute = -1;
        long trips;
        long own;
        long advances;
    }

    static final class Part {
        boolean service;
        int quantity;
        int price;
        int received;
    }

    static final class Paper {
        int person;
        int centre;
        int state = DRAFT;
        int year = -1;
        int supplier = -1;
        long totalWhenOrdered;
        final List<Part> parts = new ArrayList<>();
        /** The chain: the bosses in their order, and the controller put behind them; true once they approved. */
        final List<Integer> bosses = new ArrayList<>();
        int bossesDone;
        int behind = -1;
        boolean behindDone;
    }

    static final class Bill {
        int number;
        int request;
        int line;
        int pieces;
        int price;
        long net;
        int state = HELD;
        boolean letGo;
        boolean stopped;
        int percents;
        boolean home;
        long tax;
        long back;
        int bookedOn = -1;
        int due = -1;
        long owed;
        long paid;
        long discount;
    }

    static final class Slip {
        int person;
        int amount;
        boolean told;
        boolean paid;
    }

    final List<Human> people = new ArrayList<>();
    final List<Paper> papers = new ArrayList<>();
    final List<Bill> bills = new ArrayList<>();
    final List<Long> tours = new ArrayList<>();
    final List<Slip> slips = new ArrayList<>();
    private final List<long[]> spendings = new ArrayList<>();
    private final List<long[]> journal = new ArrayList<>();
    private final long[][] budgets = new long[6][3];
    private final boolean[] softs = new boolean[6];
    private final int[][] sellers = new int[6][5];
    private final int[] rates = {1000, 1000, 1000};
    private final int[] places = new int[4];
    private int percentsOfTax = 20;
    private int percentsBack = 100;
    private int percentsCarried;
    int controllerNow;
    int now;
    private int seed;
    private int percentsSampled;

    // ---- the exceptions

    private static void there(int number, int count) {
        if (number < 0 || number >= count) {
            throw new IndexOutOfBoundsException();
        }
    }

    private static void within(int value, int low, int high) {
        if (value < low || value > high) {
            throw new IllegalArgumentException();
        }
    }

    private static void may(boolean can) {
        if (!can) {
            throw new IllegalStateException();
        }
    }

    // ---- what is told of the office

    int person(int boss, int limit) {
        if (boss != -1) {
            there(boss, people.size());
        }
        within(limit, 0, 10000000);
        may(people.size() < 12);
        Human human = new Human();
        human.boss = boss;
        human.limit = limit;
        people.add(human);
        return people.size() - 1;
    }

    void absent(int person, int until, int substitute) {
        there(person, people.size());
        there(substitute, people.size());
        within(until, 0, 1079);
        within(person == substitute ? 1 : 0, 0, 0);
        people.get(person).thereAgain = until;
        people.get(person).substitute = substitute;
    }

    int controller(int person) {
        there(person, people.size());
        int was = controllerNow;
        controllerNow = person;
        return was;
    }

    long budget(int centre, int year, int amount) {
        there(centre, 6);
        there(year, 3);
        within(amount, 0, 100000000);
        long was = budgets[centre][year];
        budgets[centre][year] = amount;
        return was;
    }

    long transfer(int from, int to, int year, int amount) {
        there(from, 6);
        there(to, 6);
        there(year, 3);
        within(from == to ? 1 : 0, 0, 0);
        within(amount, 1, 100000000);
        may(amount <= centre(from, year, 3));
        budgets[from][year] -= amount;
        budgets[to][year] += amount;
        return centre(to, year, 3);
    }

    boolean soft(int centre, boolean isSoft) {
        there(centre, 6);
        boolean was = softs[centre];
        softs[centre] = isSoft;
        return was;
    }

    int carried(int percents) {
        within(percents, 0, 100);
        int was = percentsCarried;
        percentsCarried = percents;
        return was;
    }

    void supplier(int supplier, int country, int money, int terms, int discount, int days) {
        there(supplier, 6);
        there(country, 3);
        there(money, 3);
        within(terms, 0, 90);
        within(discount, 0, 10);
        within(days, 0, 30);
        sellers[supplier] = new int[] {country, money, terms, discount, days};
    }

    int rate(int money, int rate) {
        there(money - 1, 2);
        within(rate, 100, 10000);
        int was = rates[money];
        rates[money] = rate;
        return was;
    }

    void taxes(int percents, int back) {
        within(percents, 0, 30);
        within(back, 0, 100);
        percentsOfTax = percents;
        percentsBack = back;
    }

    int pass(int days) {
        within(days, 1, 360);
        may(now + days <= 1079);
        int before = now;
        now += days;
        for (int first = 360; first <= 720; first += 360) {
            if (before < first && now >= first) {
                close(first / 360 - 1);
            }
        }
        return now;
    }

    private void close(int old) {
        for (int r = 0; r < papers.size(); r++) {
            for (int l = 0; l < papers.get(r).parts.size(); l++) {
                Part part = papers.get(r).parts.get(l);
                if (papers.get(r).state == ORDERED && !part.service) {
                    long come = (long) (part.received - pieces(r, l, false)) * part.price;
                    spendings.add(new long[] {papers.get(r).centre, old, come});
                    spendings.add(new long[] {papers.get(r).centre, old + 1, -come});
                }
            }
        }
        for (int c = 0; c < 6; c++) {
            long moved = centre(c, old, 1);
            budgets[c][old] -= moved;
            budgets[c][old + 1] += moved;
        }
        for (Paper paper : papers) {
            if ((paper.state == SENT || paper.state == APPROVED || paper.state == ORDERED) && paper.year == old) {
                paper.year = old + 1;
            }
        }
        for (int c = 0; c < 6; c++) {
            long some = Math.max(0, centre(c, old, 3)) * percentsCarried / 100;
            budgets[c][old] -= some;
            budgets[c][old + 1] += some;
        }
    }

    // ---- requests

    int request(int person, int centre) {
        there(person, people.size());
        there(centre, 6);
        may(papers.size() < 40);
        Paper paper = new Paper();
        paper.person = person;
        paper.centre = centre;
        papers.add(paper);
        return papers.size() - 1;
    }

    int line(int request, boolean isService, int quantity, int price) {
        there(request, papers.size());
        within(quantity, 1, 99);
        within(price, 1, 100000);
        Paper paper = papers.get(request);
        may(paper.state == DRAFT && paper.parts.size() < 4);
        Part part = new Part();
        part.service = isService;
        part.quantity = quantity;
        part.price = price;
        paper.parts.add(part);
        return paper.parts.size();
    }

    int send(int request) {
        there(request, papers.size());
        Paper paper = papers.get(request);
        may(paper.state == DRAFT && !paper.parts.isEmpty());
        long total = requestOf(request, 1);
        may(softs[paper.centre] || total <= centre(paper.centre, now / 360, 3));
        paper.state = SENT;
        paper.year = now / 360;
        paper.bosses.clear();
        paper.bossesDone = 0;
        paper.behind = -1;
        paper.behindDone = false;
        int boss = people.get(paper.person).boss;
        boolean isEnough = false;
        while (boss != -1 && !isEnough) {
            paper.bosses.add(boss);
            isEnough = people.get(boss).limit >= total;
            boss = people.get(boss).boss;
        }
        if (total >= 100000 && controllerNow != paper.person && !paper.bosses.contains(controllerNow)) {
            paper.behind = controllerNow;
        }
        return approvedIfAllHave(request);
    }

    private int approvedIfAllHave(int request) {
        int missing = (int) requestOf(request, 4);
        if (missing == 0) {
            papers.get(request).state = APPROVED;
        }
        return missing;
    }

    /** Who approves for one: 100 if nobody does. */
    private int standIn(int one, int request) {
        Human human = people.get(one);
        if (now >= human.thereAgain) {
            return one;
        }
        return human.substitute == papers.get(request).person ? 100 : human.substitute;
    }

    private boolean forTheTurn(int request, int person) {
        Paper paper = papers.get(request);
        return paper.bossesDone < paper.bosses.size() && standIn(paper.bosses.get(paper.bossesDone), request) == person;
    }

    private boolean forTheOneBehind(int request, int person) {
        Paper paper = papers.get(request);
        return paper.behind != -1 && !paper.behindDone && standIn(paper.behind, request) == person;
    }

    int approve(int request, int person) {
        there(request, papers.size());
        there(person, people.size());
        may(papers.get(request).state == SENT);
        may(forTheTurn(request, person) || forTheOneBehind(request, person));
        if (forTheTurn(request, person)) {
            papers.get(request).bossesDone++;
        } else {
            papers.get(request).behindDone = true;
        }
        return approvedIfAllHave(request);
    }

    void refuse(int request, int person) {
        there(request, papers.size());
        there(person, people.size());
        may(papers.get(request).state == SENT);
        may(forTheTurn(request, person) || forTheOneBehind(request, person));
        papers.get(request).state = REFUSED;
    }

    int edit(int request, int line, int quantity) {
        Part part = part(request, line);
        within(quantity, 1, 99);
        may(papers.get(request).state < ORDERED);
        papers.get(request).state = DRAFT;
        int was = part.quantity;
        part.quantity = quantity;
        return was;
    }

    private Part part(int request, int line) {
        there(request, papers.size());
        there(line, papers.get(request).parts.size());
        return papers.get(request).parts.get(line);
    }

    // ---- orders, invoices, payments

    void order(int request, int supplier) {
        there(request, papers.size());
        there(supplier, 6);
        Paper paper = papers.get(request);
        may(paper.state == APPROVED);
        paper.state = ORDERED;
        paper.supplier = supplier;
        paper.totalWhenOrdered = requestOf(request, 1);
    }

    private int pieces(int request, int line, boolean areHeld) {
        int sum = 0;
        for (Bill bill : bills) {
            if (bill.request == request && bill.line == line && (bill.state == HELD) == areHeld) {
                sum += bill.pieces;
            }
        }
        return sum;
    }

    int receive(int request, int line, int pieces) {
        Part part = part(request, line);
        within(pieces, -99, 99);
        within(pieces == 0 ? 1 : 0, 0, 0);
        may(papers.get(request).state == ORDERED && !part.service);
        may(pieces < 0 || pieces <= part.quantity - part.received);
        may(pieces > 0 || -pieces <= part.received - pieces(request, line, false));
        part.received += pieces;
        return lookAgain(request, line);
    }

    private int lookAgain(int request, int line) {
        int count = 0;
        for (Bill bill : bills) {
            if (bill.request == request && bill.line == line && bookIfFree(bill)) {
                count++;
            }
        }
        return count;
    }

    private int why(Bill bill) {
        Part part = papers.get(bill.request).parts.get(bill.line);
        boolean tooMany = pieces(bill.request, bill.line, false) + bill.pieces > (part.service ? part.quantity : part.received);
        long expected = (long) bill.pieces * part.price;
        boolean tooDear = !bill.letGo && bill.net - expected > expected * 5 / 100;
        return (tooMany ? 1 : 0) + (tooDear ? 2 : 0);
    }

    private boolean bookIfFree(Bill bill) {
        if (bill.state != HELD || why(bill) != 0) {
            return false;
        }
        Paper paper = papers.get(bill.request);
        int[] seller = sellers[paper.supplier];
        bill.home = seller[0] == 0;
        bill.percents = percentsOfTax;
        bill.tax = bill.net * percentsOfTax / 100;
        bill.back = bill.tax * percentsBack / 100;
        bill.bookedOn = now;
        bill.due = now + seller[2];
        bill.owed = bill.home ? bill.net + bill.tax : bill.net;
        bill.state = BOOKED;
        long cost = bill.net + (bill.tax - bill.back);
        spendings.add(new long[] {paper.centre, now / 360, cost});
        enter(COST, cost, TAX, bill.back, OWED, -bill.owed, TAX, bill.home ? 0 : -bill.tax);
        return true;
    }

    private void enter(long... accountsAndAmounts) {
        for (int i = 0; i < accountsAndAmounts.length; i += 2) {
            journal.add(new long[] {accountsAndAmounts[i], accountsAndAmounts[i + 1]});
        }
    }

    int change(int request, int line, int quantity) {
        Part part = part(request, line);
        within(quantity, 1, 99);
        Paper paper = papers.get(request);
        may(paper.state == ORDERED);
        may(quantity >= part.received && quantity >= pieces(request, line, false) + pieces(request, line, true));
        long more = ((long) quantity - part.quantity) * part.price;
        may((requestOf(request, 1) + more) * 100 <= paper.totalWhenOrdered * 105);
        may(more <= 0 || softs[paper.centre] || more <= centre(paper.centre, paper.year, 3));
        part.quantity = quantity;
        return lookAgain(request, line);
    }

    long end(int request) {
        there(request, papers.size());
        may(papers.get(request).state == ORDERED);
        for (int l = 0; l < papers.get(request).parts.size(); l++) {
            may(pieces(request, l, true) == 0);
        }
        long left = requestOf(request, 2);
        papers.get(request).state = ENDED;
        return left;
    }

    int invoice(int request, int line, int pieces, int price) {
        part(request, line);
        within(pieces, 1, 99);
        within(price, 1, 100000);
        may(papers.get(request).state == ORDERED && bills.size() < 60);
        Bill bill = new Bill();
        bill.number = bills.size();
        bill.request = request;
        bill.line = line;
        bill.pieces = pieces;
        bill.price = price;
        bill.net = (long) pieces * price * rates[sellers[papers.get(request).supplier][1]] / 1000;
        bills.add(bill);
        bookIfFree(bill);
        return bill.number;
    }

    boolean letGo(int invoice, int person) {
        there(invoice, bills.size());
        there(person, people.size());
        Bill bill = bills.get(invoice);
        may(bill.state == HELD && why(bill) >= 2 && person == controllerNow);
        bill.letGo = true;
        return bookIfFree(bill);
    }

    private boolean hasDays(Bill bill) {
        return now - bill.bookedOn <= seller(bill)[4];
    }

    private int[] seller(Bill bill) {
        return sellers[papers.get(bill.request).supplier];
    }

    int run(int day, boolean takesDiscounts) {
        within(day, 0, 2000);
        List<Bill> chosen = new ArrayList<>();
        for (Bill bill : bills) {
            boolean isCheaper = takesDiscounts && seller(bill)[3] > 0 && hasDays(bill);
            if (bill.state == BOOKED && !bill.stopped && (bill.due <= day || isCheaper)) {
                chosen.add(bill);
            }
        }
        chosen.sort(Comparator.comparingInt((Bill bill) -> bill.due).thenComparingInt(bill -> bill.number));
        for (Bill bill : chosen) {
            long theirs = (long) bill.pieces * bill.price;
            theirs += bill.home ? theirs * bill.percents / 100 : 0;
            long whole = theirs * rates[seller(bill)[1]] / 1000;
            bill.discount = hasDays(bill) ? whole * seller(bill)[3] / 100 : 0;
            bill.paid = whole - bill.discount;
            enter(OWED, bill.owed, BANK, -bill.paid, DISCOUNTS, -bill.discount, RATES, bill.paid + bill.discount - bill.owed);
            bill.owed = 0;
            bill.state = PAID;
        }
        return chosen.size();
    }

    long bounce(int invoice) {
        there(invoice, bills.size());
        Bill bill = bills.get(invoice);
        may(bill.state == PAID);
        bill.state = BOOKED;
        bill.stopped = true;
        bill.owed = bill.paid + bill.discount;
        enter(BANK, bill.paid, DISCOUNTS, bill.discount, OWED, -bill.paid, OWED, -bill.discount);
        return bill.paid;
    }

    void goOn(int invoice) {
        there(invoice, bills.size());
        may(bills.get(invoice).stopped);
        bills.get(invoice).stopped = false;
    }

    // ---- trips, cards, samples

    int place(int place, int rate) {
        there(place, 4);
        within(rate, 0, 50000);
        int was = places[place];
        places[place] = rate;
        return was;
    }

    int trip(int person, int centre, int place, int days, int breakfasts, int meals, int kilometres) {
        there(person, people.size());
        there(centre, 6);
        there(place, 4);
        within(days, 1, 30);
        within(breakfasts, 0, days);
        within(meals, 0, days * 2);
        within(kilometres, 0, 5000);
        may(tours.size() < 30);
        long rate = places[place];
        long cost = 0;
        for (int day = 1; day <= days; day++) {
            cost += day == 1 || day == days ? rate / 2 : rate;
        }
        for (int i = 0; i < breakfasts; i++) {
            cost -= rate * 20 / 100;
        }
        for (int i = 0; i < meals; i++) {
            cost -= rate * 40 / 100;
        }
        cost = (cost < 0 ? 0 : cost) + 30L * kilometres;
        spend(centre, cost);
        people.get(person).trips += cost;
        enter(COST, cost, STAFF, -cost);
        tours.add(cost);
        return tours.size() - 1;
    }

    private void spend(int centre, long amount) {
        may(softs[centre] || amount <= centre(centre, now / 360, 3));
        spendings.add(new long[] {centre, now / 360, amount});
    }

    long advance(int person, int amount) {
        there(person, people.size());
        within(amount, 1, 1000000);
        people.get(person).advances += amount;
        enter(ADVANCES, amount, BANK, -amount);
        return people.get(person).advances;
    }

    long settle(int person) {
        there(person, people.size());
        Human human = people.get(person);
        long pays = human.trips - human.own - human.advances;
        enter(ADVANCES, -human.advances, STAFF, pays + human.advances, BANK, -pays);
        human.trips = 0;
        human.own = 0;
        human.advances = 0;
        return pays;
    }

    int card(int person, int amount) {
        there(person, people.size());
        within(amount, 1, 1000000);
        may(slips.size() < 40);
        Slip slip = new Slip();
        slip.person = person;
        slip.amount = amount;
        slips.add(slip);
        return slips.size() - 1;
    }

    long tell(int entry, int centre, int own) {
        there(entry, slips.size());
        there(centre, 6);
        Slip slip = slips.get(entry);
        within(own, 0, slip.amount);
        may(!slip.told);
        spend(centre, slip.amount - own);
        slip.told = true;
        people.get(slip.person).own += own;
        enter(COST, slip.amount - own, STAFF, own, CARD, -slip.amount);
        return slip.amount - own;
    }

    long payCard() {
        long sum = 0;
        for (Slip slip : slips) {
            if (slip.told && !slip.paid) {
                slip.paid = true;
                sum += slip.amount;
            }
        }
        enter(CARD, sum, BANK, -sum);
        return sum;
    }

    void sample(int seed, int percents) {
        within(percents, 0, 100);
        this.seed = seed;
        percentsSampled = percents;
    }

    // ---- what is asked

    int day() {
        return now;
    }

    long centre(int centre, int year, int what) {
        there(centre, 6);
        there(year, 3);
        within(what, 0, 3);
        long committed = 0;
        for (int r = 0; r < papers.size(); r++) {
            if (papers.get(r).centre == centre && papers.get(r).year == year) {
                committed += requestOf(r, 2);
            }
        }
        long spent = 0;
        for (long[] one : spendings) {
            if (one[0] == centre && one[1] == year) {
                spent += one[2];
            }
        }
        long budget = budgets[centre][year];
        return new long[] {budget, committed, spent, budget - committed - spent}[what];
    }

    long requestOf(int request, int what) {
        there(request, papers.size());
        within(what, 0, 5);
        Paper paper = papers.get(request);
        long total = 0;
        long open = 0;
        for (int l = 0; l < paper.parts.size(); l++) {
            Part part = paper.parts.get(l);
            total += (long) part.quantity * part.price;
            open += (long) (part.quantity - pieces(request, l, false)) * part.price;
        }
        int missing = paper.bosses.size() - paper.bossesDone + (paper.behind == -1 || paper.behindDone ? 0 : 1);
        boolean commits = paper.state == SENT || paper.state == APPROVED || paper.state == ORDERED;
        return new long[] {paper.state, total, commits ? open : 0, paper.year, paper.state == SENT ? missing : 0, paper.supplier}[what];
    }

    int next(int request) {
        there(request, papers.size());
        Paper paper = papers.get(request);
        for (int p = 0; p < people.size(); p++) {
            if (paper.state == SENT && forTheTurn(request, p)) {
                return p;
            }
        }
        for (int p = 0; p < people.size(); p++) {
            if (paper.state == SENT && forTheOneBehind(request, p)) {
                return p;
            }
        }
        return -1;
    }

    int lineOf(int request, int line, int what) {
        Part part = part(request, line);
        within(what, 0, 4);
        return new int[] {part.quantity, part.price, part.received, pieces(request, line, false), pieces(request, line, true)}[what];
    }

    long invoiceOf(int invoice, int what) {
        there(invoice, bills.size());
        within(what, 0, 7);
        Bill bill = bills.get(invoice);
        long cost = bill.state == HELD ? 0 : bill.net + bill.tax - bill.back;
        long reason = bill.state == HELD ? why(bill) : 0;
        return new long[] {bill.state, reason, bill.net, bill.tax, cost, bill.owed, bill.due, bill.stopped ? 1 : 0}[what];
    }

    long staff(int person, int what) {
        there(person, people.size());
        within(what, 0, 1);
        Human human = people.get(person);
        return what == 0 ? human.trips - human.own : human.advances;
    }

    long tripCost(int trip) {
        there(trip, tours.size());
        return tours.get(trip);
    }

    boolean isTold(int entry) {
        there(entry, slips.size());
        return slips.get(entry).told;
    }

    long account(int account) {
        there(account, 9);
        long sum = 0;
        for (long[] one : journal) {
            sum += one[0] == account ? one[1] : 0;
        }
        return sum;
    }

    boolean isSampled(int kind, int number) {
        within(kind, 0, 2);
        there(number, kind == 0 ? bills.size() : kind == 1 ? tours.size() : slips.size());
        long mixed = 1103515245L * (100L * kind + number) + seed;
        return ((mixed & 0xffffffffL) >> 16) % 100 < percentsSampled;
    }
}
