import java.util.ArrayList;

/** An office of expenses and purchases, as ../shared/DOC.md tells it. */
public final class ChitWright {
    public static final int NONE = -1;
    public static final int DRAFT = 0, SENT = 1, APPROVED = 2, REFUSED = 3, ORDERED = 4, ENDED = 5;
    public static final int HELD = 0, BOOKED = 1, PAID = 2;
    public static final int COST = 0, OWED = 1, BANK = 2, TAX = 3, RATES = 4, DISCOUNTS = 5, ADVANCES = 6, CARD = 7, STAFF = 8;

    private static final int YEAR_DAYS = 360;
    private static final int YEARS = 3;
    private static final int LAST_DAY = 1079;
    private static final int LAST_RUN_DAY = 2000;

    private static final int MAX_PERSONS = 12;
    private static final int MAX_REQUESTS = 40;
    private static final int MAX_LINES = 4;
    private static final int MAX_INVOICES = 60;
    private static final int MAX_TRIPS = 30;
    private static final int MAX_ENTRIES = 40;

    private static final int CENTRES = 6;
    private static final int SUPPLIERS = 6;
    private static final int COUNTRIES = 3;
    private static final int MONEYS = 3;
    private static final int PLACES = 4;
    private static final int ACCOUNTS = 9;
    private static final int KINDS = 3;

    private static final int HOME = 0;
    private static final int HOME_MONEY = 0;
    private static final int RATE_UNIT = 1000;

    private static final int MAX_LIMIT = 10000000;
    private static final int MAX_BUDGET = 100000000;
    private static final int MAX_QUANTITY = 99;
    private static final int MAX_PRICE = 100000;
    private static final int MAX_CASH = 1000000;

    private static final int CONTROLLED_TOTAL = 100000;
    private static final int ORDER_PERCENTS = 105;
    private static final int PRICE_PERCENTS = 5;
    private static final int BREAKFAST_PERCENTS = 20;
    private static final int MEAL_PERCENTS = 40;
    private static final int KILOMETRE_CENTS = 30;
    private static final int SAMPLE_FACTOR = 1103515245;

    private static final int HELD_FOR_PIECES = 1;
    private static final int HELD_FOR_PRICE = 2;

    private final ArrayList<Person> persons = new ArrayList<>();
    private final ArrayList<Centre> centres = new ArrayList<>();
    private final ArrayList<Money> moneys = new ArrayList<>();
    private final ArrayList<Supplier> suppliers = new ArrayList<>();
    private final ArrayList<Request> requests = new ArrayList<>();
    private final ArrayList<Invoice> invoices = new ArrayList<>();
    private final ArrayList<Trip> trips = new ArrayList<>();
    private final ArrayList<Entry> entries = new ArrayList<>();
    private final int[] placeRates = new int[PLACES];
    private final long[] balances = new long[ACCOUNTS];
    private Person theController = null;
    private int today = 0;
    private int carriedPercents = 0;
    private int taxPercents = 20;
    private int backPercents = 100;
    private long toldOnCard = 0;
    private int sampleSeed = 0;
    private int samplePercents = 0;

    public ChitWright() {
        for (int i = 0; i < CENTRES; i++) {
            centres.add(new Centre());
        }
        Money home = new Money();
        moneys.add(home);
        for (int i = 1; i < MONEYS; i++) {
            moneys.add(new Money());
        }
        for (int i = 0; i < SUPPLIERS; i++) {
            suppliers.add(new Supplier(i, home));
        }
    }

    // ---- what is told of the office

    public int person(int boss, int limit) throws IndexOutOfBoundsException, IllegalArgumentException, IllegalStateException {
        Person above = boss == NONE ? null : personAt(boss);
        requireRange(limit, 0, MAX_LIMIT);
        if (persons.size() >= MAX_PERSONS) {
            throw new IllegalStateException("there are 12 persons");
        }
        Person added = new Person(persons.size(), above, limit);
        if (theController == null) {
            theController = added;
        }
        persons.add(added);
        return added.number;
    }

    public void absent(int person, int until, int substitute) throws IndexOutOfBoundsException, IllegalArgumentException {
        Person away = personAt(person);
        Person other = personAt(substitute);
        requireRange(until, 0, LAST_DAY);
        if (away == other) {
            throw new IllegalArgumentException("nobody is their own substitute");
        }
        away.awayUntil = until;
        away.substitute = other;
    }

    public int controller(int person) throws IndexOutOfBoundsException {
        Person now = personAt(person);
        int before = theController == null ? 0 : theController.number;
        theController = now;
        return before;
    }

    public long budget(int centre, int year, int amount) throws IndexOutOfBoundsException, IllegalArgumentException {
        Purse purse = purseAt(centre, year);
        requireRange(amount, 0, MAX_BUDGET);
        long before = purse.budgeted;
        purse.budgeted = amount;
        return before;
    }

    public long transfer(int from, int to, int year, int amount) throws IndexOutOfBoundsException, IllegalArgumentException, IllegalStateException {
        Purse giver = purseAt(from, year);
        Purse taker = purseAt(to, year);
        requireRange(amount, 1, MAX_BUDGET);
        if (giver == taker) {
            throw new IllegalArgumentException("both centres are the same");
        }
        if (amount > giver.free()) {
            throw new IllegalStateException("so much is not free");
        }
        giver.budgeted -= amount;
        taker.budgeted += amount;
        return taker.free();
    }

    public boolean soft(int centre, boolean isSoft) throws IndexOutOfBoundsException {
        Centre told = centreAt(centre);
        boolean before = told.isSoft;
        told.isSoft = isSoft;
        return before;
    }

    public int carried(int percents) throws IllegalArgumentException {
        requireRange(percents, 0, 100);
        int before = carriedPercents;
        carriedPercents = percents;
        return before;
    }

    public void supplier(int supplier, int country, int money, int terms, int discount, int days) throws IndexOutOfBoundsException, IllegalArgumentException {
        Supplier told = supplierAt(supplier);
        requireNumber(country, COUNTRIES);
        Money theirs = moneyAt(money);
        requireRange(terms, 0, 90);
        requireRange(discount, 0, 10);
        requireRange(days, 0, 30);
        told.country = country;
        told.money = theirs;
        told.terms = terms;
        told.discount = discount;
        told.discountDays = days;
    }

    public int rate(int money, int rate) throws IndexOutOfBoundsException, IllegalArgumentException {
        Money told = moneyAt(money);
        if (money == HOME_MONEY) {
            throw new IndexOutOfBoundsException("the home money has no rate to be told");
        }
        requireRange(rate, 100, 10000);
        int before = told.perThousand;
        told.perThousand = rate;
        return before;
    }

    public void taxes(int percents, int back) throws IllegalArgumentException {
        requireRange(percents, 0, 30);
        requireRange(back, 0, 100);
        taxPercents = percents;
        backPercents = back;
    }

    public int pass(int days) throws IllegalArgumentException, IllegalStateException {
        requireRange(days, 1, YEAR_DAYS);
        if (today + days > LAST_DAY) {
            throw new IllegalStateException("the last day is 1079");
        }
        int old = thisYear();
        today += days;
        if (thisYear() > old) {
            closeYear(old);
        }
        return today;
    }

    // ---- requests

    public int request(int person, int centre) throws IndexOutOfBoundsException, IllegalStateException {
        Person asker = personAt(person);
        Centre forCentre = centreAt(centre);
        if (requests.size() >= MAX_REQUESTS) {
            throw new IllegalStateException("there are 40 requests");
        }
        requests.add(new Request(asker, forCentre));
        return requests.size() - 1;
    }

    public int line(int request, boolean isService, int quantity, int price) throws IndexOutOfBoundsException, IllegalArgumentException, IllegalStateException {
        Request draft = requestAt(request);
        requireRange(quantity, 1, MAX_QUANTITY);
        requireRange(price, 1, MAX_PRICE);
        if (draft.state != DRAFT || draft.lines.size() >= MAX_LINES) {
            throw new IllegalStateException("it is no DRAFT, or has 4 lines");
        }
        draft.lines.add(new Line(isService, quantity, price));
        return draft.lines.size();
    }

    public int send(int request) throws IndexOutOfBoundsException, IllegalStateException {
        Request draft = requestAt(request);
        if (draft.state != DRAFT || draft.lines.isEmpty()) {
            throw new IllegalStateException("it is no DRAFT, or has no line");
        }
        long total = draft.total();
        requireFree(draft.centre, thisYear(), total);
        draft.year = thisYear();
        commit(draft, total);
        startChain(draft, total);
        draft.state = SENT;
        return waitOrApprove(draft);
    }

    public int approve(int request, int person) throws IndexOutOfBoundsException, IllegalStateException {
        Request asked = requestAt(request);
        Person by = personAt(person);
        if (asked.state != SENT) {
            throw new IllegalStateException("it is not SENT");
        }
        Person turn = asked.turn;
        if (turn != null && by == approverFor(asked, turn)) {
            asked.turn = bossAfter(turn, asked.total());
        } else if (by == approverFor(asked, asked.extra)) {
            asked.extra = null;
        } else {
            throw new IllegalStateException("that person cannot approve it now");
        }
        return waitOrApprove(asked);
    }

    public void refuse(int request, int person) throws IndexOutOfBoundsException, IllegalStateException {
        Request asked = requestAt(request);
        Person by = personAt(person);
        if (asked.state != SENT) {
            throw new IllegalStateException("it is not SENT");
        }
        if (by != approverFor(asked, asked.turn) && by != approverFor(asked, asked.extra)) {
            throw new IllegalStateException("that person cannot refuse it now");
        }
        release(asked, asked.committed);
        asked.state = REFUSED;
    }

    public int edit(int request, int line, int quantity) throws IndexOutOfBoundsException, IllegalArgumentException, IllegalStateException {
        Request asked = requestAt(request);
        Line edited = lineAt(asked, line);
        requireRange(quantity, 1, MAX_QUANTITY);
        if (asked.state == ORDERED || asked.state == ENDED) {
            throw new IllegalStateException("it was ordered");
        }
        release(asked, asked.committed);
        asked.state = DRAFT;
        int before = edited.quantity;
        edited.quantity = quantity;
        return before;
    }

    // ---- orders, invoices, payments

    public void order(int request, int supplier) throws IndexOutOfBoundsException, IllegalStateException {
        Request approved = requestAt(request);
        Supplier from = supplierAt(supplier);
        if (approved.state != APPROVED) {
            throw new IllegalStateException("it is not APPROVED");
        }
        approved.supplier = from;
        approved.orderedTotal = approved.total();
        approved.state = ORDERED;
    }

    public int receive(int request, int line, int pieces) throws IndexOutOfBoundsException, IllegalArgumentException, IllegalStateException {
        Request ordered = requestAt(request);
        Line goods = lineAt(ordered, line);
        requireRange(pieces, -MAX_QUANTITY, MAX_QUANTITY);
        if (pieces == 0) {
            throw new IllegalArgumentException("no pieces");
        }
        if (ordered.state != ORDERED || goods.isService) {
            throw new IllegalStateException("it is not ORDERED, or the line is of services");
        }
        int received = goods.received + pieces;
        if (received > goods.quantity || received < goods.bookedPieces) {
            throw new IllegalStateException("too many or too few pieces");
        }
        goods.received = received;
        return lookAgain(goods);
    }

    public int change(int request, int line, int quantity) throws IndexOutOfBoundsException, IllegalArgumentException, IllegalStateException {
        Request ordered = requestAt(request);
        Line changed = lineAt(ordered, line);
        requireRange(quantity, 1, MAX_QUANTITY);
        if (ordered.state != ORDERED) {
            throw new IllegalStateException("it is not ORDERED");
        }
        if (quantity < changed.received || quantity < changed.bookedPieces + changed.heldPieces) {
            throw new IllegalStateException("more was received, or is on invoices");
        }
        long more = (long) (quantity - changed.quantity) * changed.price;
        if (ordered.total() + more > ordered.orderedTotal * ORDER_PERCENTS / 100) {
            throw new IllegalStateException("more than 105 percent of what was ordered");
        }
        if (more > 0) {
            requireFree(ordered.centre, ordered.year, more);
            commit(ordered, more);
        } else {
            release(ordered, -more);
        }
        changed.quantity = quantity;
        return lookAgain(changed);
    }

    public long end(int request) throws IndexOutOfBoundsException, IllegalStateException {
        Request ordered = requestAt(request);
        if (ordered.state != ORDERED || ordered.hasHeldInvoices()) {
            throw new IllegalStateException("it is not ORDERED, or an invoice is held");
        }
        ordered.state = ENDED;
        return release(ordered, ordered.committed);
    }

    public int invoice(int request, int line, int pieces, int price) throws IndexOutOfBoundsException, IllegalArgumentException, IllegalStateException {
        Request ordered = requestAt(request);
        Line of = lineAt(ordered, line);
        requireRange(pieces, 1, MAX_QUANTITY);
        requireRange(price, 1, MAX_PRICE);
        Supplier from = ordered.supplier;
        if (from == null || ordered.state != ORDERED || invoices.size() >= MAX_INVOICES) {
            throw new IllegalStateException("it is not ORDERED, or there are 60 invoices");
        }
        Invoice came = new Invoice(ordered, of, from, pieces, price);
        invoices.add(came);
        of.heldPieces += pieces;
        bookUnlessHeld(came);
        return invoices.size() - 1;
    }

    public boolean letGo(int invoice, int person) throws IndexOutOfBoundsException, IllegalStateException {
        Invoice held = invoiceAt(invoice);
        Person by = personAt(person);
        if (held.state != HELD || !held.isTooDear()) {
            throw new IllegalStateException("it is not held for its price");
        }
        if (by != theController) {
            throw new IllegalStateException("that is not the controller");
        }
        held.wasLetGo = true;
        return bookUnlessHeld(held);
    }

    // The order in which a run pays cannot be seen from outside: no payment touches another one.
    public int run(int day, boolean takesDiscounts) throws IllegalArgumentException {
        requireRange(day, 0, LAST_RUN_DAY);
        int paid = 0;
        for (int i = 0; i < invoices.size(); i++) {
            Invoice one = invoices.get(i);
            if (isToPay(one, day, takesDiscounts)) {
                pay(one);
                paid++;
            }
        }
        return paid;
    }

    public long bounce(int invoice) throws IndexOutOfBoundsException, IllegalStateException {
        Invoice returned = invoiceAt(invoice);
        if (returned.state != PAID) {
            throw new IllegalStateException("it is not PAID");
        }
        returned.owed = returned.paid + returned.discount;
        returned.isStopped = true;
        returned.state = BOOKED;
        post(BANK, returned.paid);
        post(DISCOUNTS, returned.discount);
        post(OWED, -returned.owed);
        return returned.paid;
    }

    public void goOn(int invoice) throws IndexOutOfBoundsException, IllegalStateException {
        Invoice stopped = invoiceAt(invoice);
        if (!stopped.isStopped) {
            throw new IllegalStateException("it is not stopped");
        }
        stopped.isStopped = false;
    }

    // ---- trips, cards, samples

    public int place(int place, int rate) throws IndexOutOfBoundsException, IllegalArgumentException {
        if (place < 0 || place >= placeRates.length) {
            throw new IndexOutOfBoundsException("no such place");
        }
        requireRange(rate, 0, 50000);
        int before = placeRates[place];
        placeRates[place] = rate;
        return before;
    }

    public int trip(int person, int centre, int place, int days, int breakfasts, int meals, int kilometres) throws IndexOutOfBoundsException, IllegalArgumentException, IllegalStateException {
        Person traveller = personAt(person);
        Centre forCentre = centreAt(centre);
        if (place < 0 || place >= placeRates.length) {
            throw new IndexOutOfBoundsException("no such place");
        }
        requireRange(days, 1, 30);
        requireRange(breakfasts, 0, days);
        requireRange(meals, 0, 2 * days);
        requireRange(kilometres, 0, 5000);
        if (trips.size() >= MAX_TRIPS) {
            throw new IllegalStateException("there are 30 trips");
        }
        long cost = allowance(placeRates[place], days, breakfasts, meals) + (long) kilometres * KILOMETRE_CENTS;
        requireFree(forCentre, thisYear(), cost);
        spend(forCentre, cost);
        traveller.owed += cost;
        post(COST, cost);
        post(STAFF, -cost);
        trips.add(new Trip(cost));
        return trips.size() - 1;
    }

    public long advance(int person, int amount) throws IndexOutOfBoundsException, IllegalArgumentException {
        Person taker = personAt(person);
        requireRange(amount, 1, MAX_CASH);
        taker.advances += amount;
        post(ADVANCES, amount);
        post(BANK, -amount);
        return taker.advances;
    }

    public long settle(int person) throws IndexOutOfBoundsException {
        Person settled = personAt(person);
        long paid = settled.owed - settled.advances;
        post(ADVANCES, -settled.advances);
        post(STAFF, settled.owed);
        post(BANK, -paid);
        settled.owed = 0;
        settled.advances = 0;
        return paid;
    }

    public int card(int person, int amount) throws IndexOutOfBoundsException, IllegalArgumentException, IllegalStateException {
        Person holder = personAt(person);
        requireRange(amount, 1, MAX_CASH);
        if (entries.size() >= MAX_ENTRIES) {
            throw new IllegalStateException("there are 40 card entries");
        }
        entries.add(new Entry(holder, amount));
        return entries.size() - 1;
    }

    public long tell(int entry, int centre, int own) throws IndexOutOfBoundsException, IllegalArgumentException, IllegalStateException {
        Entry told = entryAt(entry);
        Centre forCentre = centreAt(centre);
        requireRange(own, 0, told.amount);
        if (told.isDone) {
            throw new IllegalStateException("it was told");
        }
        int rest = told.amount - own;
        requireFree(forCentre, thisYear(), rest);
        told.isDone = true;
        spend(forCentre, rest);
        told.holder.owed -= own;
        toldOnCard += told.amount;
        post(COST, rest);
        post(STAFF, own);
        post(CARD, -told.amount);
        return rest;
    }

    public long payCard() {
        long paid = toldOnCard;
        toldOnCard = 0;
        post(CARD, paid);
        post(BANK, -paid);
        return paid;
    }

    public void sample(int seed, int percents) throws IllegalArgumentException {
        requireRange(percents, 0, 100);
        sampleSeed = seed;
        samplePercents = percents;
    }

    // ---- what is asked

    public int day() {
        return today;
    }

    public long centre(int centre, int year, int what) throws IndexOutOfBoundsException, IllegalArgumentException {
        Purse purse = purseAt(centre, year);
        switch (what) {
            case 0: return purse.budgeted;
            case 1: return purse.committed;
            case 2: return purse.spent;
            case 3: return purse.free();
            default: throw new IllegalArgumentException("what is 0 to 3");
        }
    }

    public long requestOf(int request, int what) throws IndexOutOfBoundsException, IllegalArgumentException {
        Request asked = requestAt(request);
        switch (what) {
            case 0: return asked.state;
            case 1: return asked.total();
            case 2: return asked.committed;
            case 3: return asked.year;
            case 4: return asked.state == SENT ? missingApprovals(asked) : 0;
            case 5: return asked.supplier == null ? NONE : asked.supplier.number;
            default: throw new IllegalArgumentException("what is 0 to 5");
        }
    }

    public int next(int request) throws IndexOutOfBoundsException {
        Request asked = requestAt(request);
        if (asked.state != SENT) {
            return NONE;
        }
        Person who = approverFor(asked, asked.turn);
        if (who == null) {
            who = approverFor(asked, asked.extra);
        }
        return who == null ? NONE : who.number;
    }

    public int lineOf(int request, int line, int what) throws IndexOutOfBoundsException, IllegalArgumentException {
        Line asked = lineAt(requestAt(request), line);
        switch (what) {
            case 0: return asked.quantity;
            case 1: return asked.price;
            case 2: return asked.received;
            case 3: return asked.bookedPieces;
            case 4: return asked.heldPieces;
            default: throw new IllegalArgumentException("what is 0 to 4");
        }
    }

    public long invoiceOf(int invoice, int what) throws IndexOutOfBoundsException, IllegalArgumentException {
        Invoice asked = invoiceAt(invoice);
        switch (what) {
            case 0: return asked.state;
            case 1: return asked.state == HELD ? asked.reasons() : 0;
            case 2: return asked.net;
            case 3: return asked.tax;
            case 4: return asked.cost;
            case 5: return asked.owed;
            case 6: return asked.dueDay;
            case 7: return asked.isStopped ? 1 : 0;
            default: throw new IllegalArgumentException("what is 0 to 7");
        }
    }

    public long staff(int person, int what) throws IndexOutOfBoundsException, IllegalArgumentException {
        Person asked = personAt(person);
        requireRange(what, 0, 1);
        return what == 0 ? asked.owed : asked.advances;
    }

    public long tripCost(int trip) throws IndexOutOfBoundsException {
        requireNumber(trip, trips.size());
        return trips.get(trip).cost;
    }

    public boolean isTold(int entry) throws IndexOutOfBoundsException {
        return entryAt(entry).isDone;
    }

    public long account(int account) throws IndexOutOfBoundsException {
        if (account < 0 || account >= balances.length) {
            throw new IndexOutOfBoundsException("no such account");
        }
        return balances[account];
    }

    public boolean isSampled(int kind, int number) throws IllegalArgumentException, IndexOutOfBoundsException {
        requireRange(kind, 0, KINDS - 1);
        requireNumber(number, countOfKind(kind));
        int mixed = (SAMPLE_FACTOR * (100 * kind + number) + sampleSeed) >>> 16;
        return mixed % 100 < samplePercents;
    }

    // ---- looking arguments up

    private static void requireNumber(int number, int count) {
        if (number < 0 || number >= count) {
            throw new IndexOutOfBoundsException("no such number");
        }
    }

    private static void requireRange(int value, int lowest, int highest) {
        if (value < lowest || value > highest) {
            throw new IllegalArgumentException("out of range");
        }
    }

    private Person personAt(int number) {
        requireNumber(number, persons.size());
        return persons.get(number);
    }

    private Centre centreAt(int number) {
        requireNumber(number, centres.size());
        return centres.get(number);
    }

    private Money moneyAt(int number) {
        requireNumber(number, moneys.size());
        return moneys.get(number);
    }

    private Supplier supplierAt(int number) {
        requireNumber(number, suppliers.size());
        return suppliers.get(number);
    }

    private Request requestAt(int number) {
        requireNumber(number, requests.size());
        return requests.get(number);
    }

    private static Line lineAt(Request request, int number) {
        requireNumber(number, request.lines.size());
        return request.lines.get(number);
    }

    private Invoice invoiceAt(int number) {
        requireNumber(number, invoices.size());
        return invoices.get(number);
    }

    private Entry entryAt(int number) {
        requireNumber(number, entries.size());
        return entries.get(number);
    }

    private Purse purseAt(int centre, int year) {
        return purseOf(centreAt(centre), year);
    }

    private static Purse purseOf(Centre centre, int year) {
        requireNumber(year, centre.purses.size());
        return centre.purses.get(year);
    }

    private int countOfKind(int kind) {
        switch (kind) {
            case 0: return invoices.size();
            case 1: return trips.size();
            default: return entries.size();
        }
    }

    // ---- budgets and books

    private int thisYear() {
        return today / YEAR_DAYS;
    }

    private static void requireFree(Centre centre, int year, long amount) {
        if (!centre.isSoft && amount > purseOf(centre, year).free()) {
            throw new IllegalStateException("so much is not free");
        }
    }

    private void spend(Centre centre, long amount) {
        purseOf(centre, thisYear()).spent += amount;
    }

    private static void commit(Request request, long amount) {
        purseOf(request.centre, request.year).committed += amount;
        request.committed += amount;
    }

    /** Frees as much of an amount as is committed, and returns that. */
    private static long release(Request request, long amount) {
        long freed = Math.min(amount, request.committed);
        if (freed <= 0) {
            return 0;
        }
        commit(request, -freed);
        return freed;
    }

    private void post(int account, long amount) {
        requireNumber(account, balances.length);
        balances[account] += amount;
    }

    // ---- the closing of a year

    private void closeYear(int old) {
        for (int i = 0; i < requests.size(); i++) {
            accrue(requests.get(i), old);
        }
        for (int i = 0; i < centres.size(); i++) {
            Centre centre = centres.get(i);
            carryOver(purseOf(centre, old), purseOf(centre, old + 1));
        }
        for (int i = 0; i < requests.size(); i++) {
            Request request = requests.get(i);
            if (request.year == old && request.isCommitting()) {
                request.year = old + 1;
            }
        }
    }

    private static void accrue(Request request, int old) {
        if (request.state != ORDERED) {
            return;
        }
        long value = request.receivedUnbooked();
        purseOf(request.centre, old).spent += value;
        purseOf(request.centre, old + 1).spent -= value;
    }

    private void carryOver(Purse old, Purse fresh) {
        long moved = old.committed;
        old.committed = 0;
        old.budgeted -= moved;
        fresh.committed += moved;
        fresh.budgeted += moved;
        long free = old.free();
        if (free > 0) {
            long kept = free * carriedPercents / 100;
            old.budgeted -= kept;
            fresh.budgeted += kept;
        }
    }

    // ---- the chain of approvals

    private void startChain(Request request, long total) {
        request.turn = request.asker.boss;
        request.extra = null;
        if (total >= CONTROLLED_TOTAL && theController != request.asker && !isAmongBosses(request, theController)) {
            request.extra = theController;
        }
    }

    /** The boss whose turn comes behind one of the chain, or null behind the last one. */
    private static Person bossAfter(Person boss, long total) {
        return boss.limit >= total ? null : boss.boss;
    }

    private static boolean isAmongBosses(Request request, Person person) {
        long total = request.total();
        for (Person boss = request.turn; boss != null; boss = bossAfter(boss, total)) {
            if (boss == person) {
                return true;
            }
        }
        return false;
    }

    private static int missingApprovals(Request request) {
        long total = request.total();
        int missing = request.extra == null ? 0 : 1;
        for (Person boss = request.turn; boss != null; boss = bossAfter(boss, total)) {
            missing++;
        }
        return missing;
    }

    private static int waitOrApprove(Request request) {
        int missing = missingApprovals(request);
        if (missing == 0) {
            request.state = APPROVED;
        }
        return missing;
    }

    /** Who approves in the place of one of the chain today, or null if nobody does. */
    private Person approverFor(Request request, Person one) {
        if (one == null || today >= one.awayUntil) {
            return one;
        }
        return one.substitute == request.asker ? null : one.substitute;
    }

    // ---- the matching, booking and paying of invoices

    private int lookAgain(Line line) {
        int booked = 0;
        for (int i = 0; i < invoices.size(); i++) {
            Invoice one = invoices.get(i);
            if (one.line == line && one.state == HELD && one.reasons() == 0) {
                book(one);
                booked++;
            }
        }
        return booked;
    }

    private boolean bookUnlessHeld(Invoice invoice) {
        if (invoice.reasons() != 0) {
            return false;
        }
        book(invoice);
        return true;
    }

    private void book(Invoice invoice) {
        Supplier supplier = invoice.supplier;
        Line line = invoice.line;
        invoice.isFromHome = supplier.country == HOME;
        invoice.taxPercents = taxPercents;
        invoice.tax = invoice.net * taxPercents / 100;
        long back = invoice.tax * backPercents / 100;
        long ownTax = invoice.isFromHome ? 0 : invoice.tax;
        invoice.cost = invoice.net + invoice.tax - back;
        invoice.owed = invoice.net + invoice.tax - ownTax;
        invoice.bookedDay = today;
        invoice.dueDay = today + supplier.terms;
        invoice.state = BOOKED;
        line.heldPieces -= invoice.pieces;
        line.bookedPieces += invoice.pieces;
        spend(invoice.request.centre, invoice.cost);
        release(invoice.request, invoice.orderedValue());
        post(COST, invoice.cost);
        post(TAX, back - ownTax);
        post(OWED, -invoice.owed);
    }

    private boolean isToPay(Invoice invoice, int day, boolean takesDiscounts) {
        if (invoice.state != BOOKED || invoice.isStopped) {
            return false;
        }
        boolean isWorthIt = takesDiscounts && invoice.supplier.discount > 0 && isInDiscountDays(invoice);
        return invoice.dueDay <= day || isWorthIt;
    }

    private boolean isInDiscountDays(Invoice invoice) {
        return today <= invoice.bookedDay + invoice.supplier.discountDays;
    }

    private void pay(Invoice invoice) {
        Supplier supplier = invoice.supplier;
        long due = invoice.owedInMoney() * supplier.money.perThousand / RATE_UNIT;
        invoice.discount = isInDiscountDays(invoice) ? due * supplier.discount / 100 : 0;
        invoice.paid = due - invoice.discount;
        post(OWED, invoice.owed);
        post(BANK, -invoice.paid);
        post(DISCOUNTS, -invoice.discount);
        post(RATES, due - invoice.owed);
        invoice.owed = 0;
        invoice.state = PAID;
    }

    // ---- the cost of trips

    private static long allowance(int rate, int days, int breakfasts, int meals) {
        int half = rate / 2;
        int whole = days == 1 ? half : (days - 2) * rate + 2 * half;
        int less = breakfasts * (rate * BREAKFAST_PERCENTS / 100) + meals * (rate * MEAL_PERCENTS / 100);
        return Math.max(0, whole - less);
    }

    // ---- the rows

    private static final class Person {
        final int number;
        final Person boss;
        final int limit;
        int awayUntil = 0;
        Person substitute = null;
        long owed = 0;
        long advances = 0;

        Person(int number, Person boss, int limit) {
            this.number = number;
            this.boss = boss;
            this.limit = limit;
        }
    }

    /** What a centre has in one year. */
    private static final class Purse {
        long budgeted = 0;
        long committed = 0;
        long spent = 0;

        long free() {
            return budgeted - committed - spent;
        }
    }

    private static final class Centre {
        final ArrayList<Purse> purses = new ArrayList<>();
        boolean isSoft = false;

        Centre() {
            for (int i = 0; i < YEARS; i++) {
                purses.add(new Purse());
            }
        }
    }

    private static final class Money {
        int perThousand = RATE_UNIT;
    }

    private static final class Supplier {
        final int number;
        Money money;
        int country = HOME;
        int terms = 0;
        int discount = 0;
        int discountDays = 0;

        Supplier(int number, Money money) {
            this.number = number;
            this.money = money;
        }
    }

    private static final class Request {
        final Person asker;
        final Centre centre;
        final ArrayList<Line> lines = new ArrayList<>();
        int state = DRAFT;
        int year = NONE;
        long committed = 0;
        // The boss whose turn it is, and the controller who was put behind the bosses; null once they approved.
        Person turn = null;
        Person extra = null;
        Supplier supplier = null;
        long orderedTotal = 0;

        Request(Person asker, Centre centre) {
            this.asker = asker;
            this.centre = centre;
        }

        long total() {
            long sum = 0;
            for (int i = 0; i < lines.size(); i++) {
                Line one = lines.get(i);
                sum += (long) one.quantity * one.price;
            }
            return sum;
        }

        boolean isCommitting() {
            return state == SENT || state == APPROVED || state == ORDERED;
        }

        boolean hasHeldInvoices() {
            for (int i = 0; i < lines.size(); i++) {
                if (lines.get(i).heldPieces > 0) {
                    return true;
                }
            }
            return false;
        }

        long receivedUnbooked() {
            long sum = 0;
            for (int i = 0; i < lines.size(); i++) {
                Line one = lines.get(i);
                if (!one.isService) {
                    sum += (long) (one.received - one.bookedPieces) * one.price;
                }
            }
            return sum;
        }
    }

    private static final class Line {
        final boolean isService;
        final int price;
        int quantity;
        int received = 0;
        int bookedPieces = 0;
        int heldPieces = 0;

        Line(boolean isService, int quantity, int price) {
            this.isService = isService;
            this.quantity = quantity;
            this.price = price;
        }
    }

    private static final class Invoice {
        final Request request;
        final Line line;
        final Supplier supplier;
        final int pieces;
        final int price;
        final long net;
        int state = HELD;
        boolean wasLetGo = false;
        boolean isFromHome = true;
        int taxPercents = 0;
        long tax = 0;
        long cost = 0;
        long owed = 0;
        int bookedDay = NONE;
        int dueDay = NONE;
        boolean isStopped = false;
        long paid = 0;
        long discount = 0;

        Invoice(Request request, Line line, Supplier supplier, int pieces, int price) {
            this.request = request;
            this.line = line;
            this.supplier = supplier;
            this.pieces = pieces;
            this.price = price;
            this.net = (long) pieces * price * supplier.money.perThousand / RATE_UNIT;
        }

        long orderedValue() {
            return (long) pieces * line.price;
        }

        int reasons() {
            int why = 0;
            if (line.bookedPieces + pieces > (line.isService ? line.quantity : line.received)) {
                why += HELD_FOR_PIECES;
            }
            if (isTooDear()) {
                why += HELD_FOR_PRICE;
            }
            return why;
        }

        boolean isTooDear() {
            long expected = orderedValue();
            return !wasLetGo && net > expected + expected * PRICE_PERCENTS / 100;
        }

        long owedInMoney() {
            long amount = (long) pieces * price;
            return isFromHome ? amount + amount * taxPercents / 100 : amount;
        }
    }

    private static final class Trip {
        final long cost;

        Trip(long cost) {
            this.cost = cost;
        }
    }

    private static final class Entry {
        final Person holder;
        final int amount;
        boolean isDone = false;

        Entry(Person holder, int amount) {
            this.holder = holder;
            this.amount = amount;
        }
    }
}
