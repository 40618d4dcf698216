/**
 * A house of finance that may take no interest. The document tells what each call does; its words
 * in capitals are used here as they stand there.
 */
public final class RibafreeHouse {
    private static final int NONE = -1;
    private static final int NOBODY = -2;
    private static final int MAX_PEOPLE = 8;
    // Behind PEOPLE in every row that has a place for the HOUSE too; ofThing() tells it so as well.
    private static final int HOUSE = 8;
    private static final int MARKET = 9;
    private static final int LAST_DAY = 4000;
    private static final int MONTH = 30;
    private static final int LUNAR_YEAR = 354;

    private static final int EARLY_SALE = 0;
    private static final int REBATE = 1;
    private static final int FEE = 2;
    private static final int LEASE_TO_SELLER = 3;
    private static final int KEPT_RESERVE = 4;

    private final Board board = new Board();
    private final Purses purses = new Purses();
    private final Things things = new Things();
    private final Sales sales = new Sales();
    private final Leases leases = new Leases();
    private final Ventures ventures = new Ventures();
    private final Pool pool = new Pool();
    private final Firms firms = new Firms();
    private int day = 0;
    private int benchmark = 10;

    public RibafreeHouse() {
    }

    // ---- the board, people, things

    public int hold(int scholar, int question, boolean isFor) throws IndexOutOfBoundsException {
        if (!isIn(scholar, 0, Board.SCHOLARS - 1) || !isIn(question, 0, Board.QUESTIONS - 1)) {
            throw new IndexOutOfBoundsException("no such scholar or question");
        }
        board.vote(scholar, question, isFor);
        return board.votesFor(question);
    }

    public int person(int cash) throws IllegalArgumentException, IllegalStateException {
        if (!isIn(cash, 0, 9999)) {
            throw new IllegalArgumentException("cash is not 0 to 9999");
        }
        if (purses.count >= MAX_PEOPLE) {
            throw new IllegalStateException("there are 8 people");
        }
        return purses.open(cash);
    }

    public int thing(int worth, int owner)
            throws IndexOutOfBoundsException, IllegalArgumentException, IllegalStateException {
        if (owner != NONE && !purses.has(owner)) {
            throw new IndexOutOfBoundsException("no such owner");
        }
        if (!isIn(worth, 1, 999)) {
            throw new IllegalArgumentException("worth is not 1 to 999");
        }
        if (things.count >= Things.MOST) {
            throw new IllegalStateException("there are 16 things");
        }
        return things.add(worth, owner == NONE ? MARKET : owner);
    }

    public int buy(int thing) throws IndexOutOfBoundsException, IllegalStateException {
        if (!things.has(thing)) {
            throw new IndexOutOfBoundsException("no such thing");
        }
        if (things.owner[thing] == HOUSE || things.isRuined[thing] || things.isLeased(thing)) {
            throw new IllegalStateException("it is the house's, ruined or leased");
        }
        int paid = things.worth[thing];
        purses.move(HOUSE, things.owner[thing], paid);
        things.acquire(thing);
        return paid;
    }

    public int take(int thing) throws IndexOutOfBoundsException, IllegalStateException {
        if (!things.has(thing)) {
            throw new IndexOutOfBoundsException("no such thing");
        }
        if (things.owner[thing] != HOUSE || things.isHeld[thing]) {
            throw new IllegalStateException("it is not the house's, or held");
        }
        things.isHeld[thing] = true;
        return things.heldByHouse();
    }

    public int ruin(int thing) throws IndexOutOfBoundsException, IllegalStateException {
        if (!things.has(thing)) {
            throw new IndexOutOfBoundsException("no such thing");
        }
        if (things.isRuined[thing]) {
            throw new IllegalStateException("it is ruined");
        }
        leases.close(things.lease[thing]);
        things.lease[thing] = NONE;
        things.isRuined[thing] = true;
        return things.worth[thing];
    }

    // ---- sales and leases

    public int sell(int thing, int buyer, int markup, int parts)
            throws IndexOutOfBoundsException, IllegalArgumentException, IllegalStateException {
        if (!things.has(thing) || !purses.has(buyer)) {
            throw new IndexOutOfBoundsException("no such thing, or buyer");
        }
        if (!isIn(markup, 0, 99) || !isIn(parts, 1, 12)) {
            throw new IllegalArgumentException("markup is not 0 to 99, or parts not 1 to 12");
        }
        if (sales.count >= Sales.MOST || things.isLeased(thing)) {
            throw new IllegalStateException("there are 12 sales, or it is leased");
        }
        int missing = missingPillars(thing, buyer);
        int sale = sales.add(thing, buyer, things.cost[thing], markup, parts, missing, day);
        if (missing == 0) {
            things.handOver(thing, buyer);
        }
        return sale;
    }

    public int pay(int sale) throws IndexOutOfBoundsException, IllegalStateException {
        if (!sales.has(sale)) {
            throw new IndexOutOfBoundsException("no such sale");
        }
        if (!sales.isOpen(sale)) {
            throw new IllegalStateException("it is void, or done");
        }
        int part = sales.nextPart(sale);
        int late = day - sales.nextDay(sale);
        int fee = late > 10 && board.isAllowedNow(FEE) ? Math.max(part * 2 / 100, 1) : 0;
        int rebate = late <= -10 && board.isAllowedNow(REBATE) ? sales.rebate(sale, part) : 0;
        int buyer = sales.buyer[sale];
        purses.move(buyer, HOUSE, part - rebate);
        purses.giveAway(buyer, fee);
        sales.settlePart(sale, fee, rebate);
        return part - rebate;
    }

    public int benchmark(int benchmark) throws IllegalArgumentException {
        if (!isIn(benchmark, 0, 99)) {
            throw new IllegalArgumentException("benchmark is not 0 to 99");
        }
        int before = this.benchmark;
        this.benchmark = benchmark;
        return before;
    }

    public int lease(int thing, int person, int floor, int ceiling)
            throws IndexOutOfBoundsException, IllegalArgumentException, IllegalStateException {
        if (!things.has(thing) || !purses.has(person)) {
            throw new IndexOutOfBoundsException("no such thing, or one of people");
        }
        if (!isIn(floor, 0, 99) || !isIn(ceiling, 0, 99) || ceiling < floor) {
            throw new IllegalArgumentException("floor or ceiling is not 0 to 99, or crossed");
        }
        if (leases.count >= Leases.MOST || !canLease(thing, person)) {
            throw new IllegalStateException("there are 8 leases, or it can not be leased so");
        }
        int lease = leases.add(thing, things.worth[thing], person, floor, ceiling, day);
        things.lease[thing] = lease;
        return lease;
    }

    public int end(int lease, boolean isGift)
            throws IndexOutOfBoundsException, IllegalStateException {
        if (!leases.has(lease)) {
            throw new IndexOutOfBoundsException("no such lease");
        }
        if (leases.isEnded[lease]) {
            throw new IllegalStateException("it ended");
        }
        leases.close(lease);
        int thing = leases.thing[lease];
        if (things.has(thing)) {
            things.lease[thing] = NONE;
            if (isGift) {
                things.handOver(thing, leases.person[lease]);
            }
        }
        return leases.rents[lease];
    }

    // ---- ventures, the pool, firms

    public int venture() throws IllegalStateException {
        if (ventures.count >= Ventures.MOST) {
            throw new IllegalStateException("there are 6 ventures");
        }
        return ventures.begin();
    }

    public int join(int venture, int person, int capital, int share)
            throws IndexOutOfBoundsException, IllegalArgumentException, IllegalStateException {
        if (!ventures.has(venture) || !isParty(person)) {
            throw new IndexOutOfBoundsException("no such venture, or one of people");
        }
        if (!isIn(capital, 1, 999) || !isIn(share, 0, 100)) {
            throw new IllegalArgumentException("capital is not 1 to 999, or share not 0 to 100");
        }
        int party = placeOf(person);
        if (ventures.isPartner(venture, party) || purses.cash[party] < capital
                || ventures.shares(venture) + share > 100) {
            throw new IllegalStateException("it is a partner, short of cash, or shares too high");
        }
        purses.add(party, -capital);
        ventures.admit(venture, party, capital, share);
        return ventures.shares(venture);
    }

    public int result(int venture, int result, int careless)
            throws IndexOutOfBoundsException, IllegalArgumentException, IllegalStateException {
        if (!ventures.has(venture) || careless != NOBODY && !isParty(careless)) {
            throw new IndexOutOfBoundsException("no such venture, or one of people");
        }
        if (!isIn(result, -999, 999)) {
            throw new IllegalArgumentException("result is not -999 to 999");
        }
        if (careless != NOBODY && !ventures.isPartner(venture, placeOf(careless))) {
            throw new IllegalStateException("the careless one is no partner");
        }
        if (result >= 0) {
            shareProfit(venture, result);
        } else if (careless == NOBODY) {
            ventures.bearLoss(venture, -result);
        } else {
            purses.add(placeOf(careless), result);
        }
        return ventures.capitals(venture);
    }

    public int buyOut(int venture, int from, int to, int capital)
            throws IndexOutOfBoundsException, IllegalArgumentException, IllegalStateException {
        if (!ventures.has(venture) || !isParty(from) || !isParty(to)) {
            throw new IndexOutOfBoundsException("no such venture, or one of people");
        }
        if (from == to || !isIn(capital, 1, 999)) {
            throw new IllegalArgumentException("both are the same, or capital is not 1 to 999");
        }
        int giver = placeOf(from);
        int payer = placeOf(to);
        if (!ventures.isPartner(venture, giver) || !ventures.isPartner(venture, payer)
                || ventures.capitalOf(venture, giver) < capital || purses.cash[payer] < capital) {
            throw new IllegalStateException("no partner, or short of capital or cash");
        }
        purses.move(payer, giver, capital);
        ventures.moveCapital(venture, giver, payer, capital);
        return ventures.capitalOf(venture, giver);
    }

    public int deposit(int person, int amount)
            throws IndexOutOfBoundsException, IllegalArgumentException, IllegalStateException {
        if (!purses.has(person)) {
            throw new IndexOutOfBoundsException("no such one of people");
        }
        if (amount == 0 || !isIn(amount, -9999, 9999)) {
            throw new IllegalArgumentException("amount is 0, or not -9999 to 9999");
        }
        boolean isShort = amount > 0 && purses.cash[person] < amount;
        if (isShort || !isIn(pool.deposit[person] + amount, 0, Pool.MOST)) {
            throw new IllegalStateException("short of cash or deposit, or deposit too high");
        }
        purses.add(person, -amount);
        pool.deposit[person] += amount;
        return pool.deposit[person];
    }

    public int share(int profit, int target, int management) throws IllegalArgumentException {
        if (!isIn(profit, 0, 9999) || !isIn(target, 0, 999) || !isIn(management, 0, 50)) {
            throw new IllegalArgumentException("profit, target or management is out of bounds");
        }
        pool.target = target;
        pool.management = management;
        int rest = pool.leftByManagement(profit);
        int shared = pool.smoothed(rest, board.isAllowedNow(KEPT_RESERVE));
        pool.reserve += rest - shared;
        int given = pool.payOut(shared);
        purses.add(HOUSE, profit - rest);
        purses.charity += shared - given;
        return given;
    }

    public int firm(int assets, int debt, int liquid, int doubt, int price, int gain)
            throws IllegalArgumentException, IllegalStateException {
        if (!isIn(assets, 1, 999) || !isIn(debt, 0, 999) || !isIn(liquid, 0, 999)
                || !isIn(doubt, 0, 999) || !isIn(price, 1, 99) || !isIn(gain, 0, 99)) {
            throw new IllegalArgumentException("a number of the firm is out of bounds");
        }
        if (firms.count >= Firms.MOST) {
            throw new IllegalStateException("there are 10 firms");
        }
        boolean isClean = 100 * debt < 33 * assets && 100 * liquid < 70 * assets
                && 100 * doubt <= 5 * assets;
        return firms.add(assets, doubt, price, gain, isClean);
    }

    public int invest(int firms) throws IllegalArgumentException, IllegalStateException {
        if (!this.firms.isSet(firms)) {
            throw new IllegalArgumentException("the set has a firm that is not there");
        }
        if ((firms & ~this.firms.clean) != 0) {
            throw new IllegalStateException("one of the firms is not clean");
        }
        // Firms that stay are in both sums, so that only those that come or go are paid.
        purses.add(HOUSE, this.firms.prices(this.firms.held) - this.firms.prices(firms));
        this.firms.held = firms;
        return purses.cash[HOUSE];
    }

    public int dividend(int firm, int dividend)
            throws IndexOutOfBoundsException, IllegalArgumentException, IllegalStateException {
        if (!firms.has(firm)) {
            throw new IndexOutOfBoundsException("no such firm");
        }
        if (!isIn(dividend, 0, 999)) {
            throw new IllegalArgumentException("dividend is not 0 to 999");
        }
        if (!firms.isHeld(firm)) {
            throw new IllegalStateException("the house does not hold it");
        }
        int tainted = firms.tainted(firm, dividend);
        purses.add(HOUSE, dividend);
        purses.giveAway(HOUSE, tainted);
        firms.given[firm] += tainted;
        return tainted;
    }

    public int pass(int days) throws IllegalArgumentException, IllegalStateException {
        if (!isIn(days, 1, 400)) {
            throw new IllegalArgumentException("days is not 1 to 400");
        }
        if (day + days > LAST_DAY) {
            throw new IllegalStateException("the day would be above 4000");
        }
        for (int passed = 0; passed < days; passed++) {
            board.endDay(day);
            pool.endDay();
            day++;
            collectRents();
            if (day % LUNAR_YEAR == 0) {
                purses.giveAlms();
            }
        }
        return day;
    }

    // ---- what is asked

    public int ofPerson(int person, int what)
            throws IndexOutOfBoundsException, IllegalArgumentException {
        if (!purses.has(person)) {
            throw new IndexOutOfBoundsException("no such one of people");
        }
        switch (what) {
            case 0:
                return purses.cash[person];
            case 1:
                return things.ownedBy(person);
            case 2:
                return pool.deposit[person];
            case 3:
                return pool.weight[person];
            case 4:
                return sales.partsLeftOf(person);
            case 5:
                return sales.debtOf(person);
            case 6:
                return leases.openOf(person);
            case 7:
                return ventures.capitalEverywhere(person);
            default:
                throw new IllegalArgumentException("what is not 0 to 7");
        }
    }

    public int ofThing(int thing, int what)
            throws IndexOutOfBoundsException, IllegalArgumentException {
        if (!things.has(thing)) {
            throw new IndexOutOfBoundsException("no such thing");
        }
        switch (what) {
            case 0:
                return things.worth[thing];
            case 1:
                return things.owner[thing];
            case 2:
                return things.isHeld[thing] ? 1 : 0;
            case 3:
                return things.isRuined[thing] ? 1 : 0;
            case 4:
                return things.cost[thing];
            case 5:
                return things.seller[thing];
            case 6:
                return things.lease[thing];
            default:
                throw new IllegalArgumentException("what is not 0 to 6");
        }
    }

    public int ofSale(int sale, int what)
            throws IndexOutOfBoundsException, IllegalArgumentException {
        if (!sales.has(sale)) {
            throw new IndexOutOfBoundsException("no such sale");
        }
        switch (what) {
            case 0:
                return sales.thing[sale];
            case 1:
                return sales.buyer[sale];
            case 2:
                return sales.price[sale];
            case 3:
                return sales.missing[sale];
            case 4:
                return sales.parts[sale];
            case 5:
                return sales.paid[sale];
            case 6:
                return sales.nextDay(sale);
            case 7:
                return sales.nextPart(sale);
            case 8:
                return sales.fees[sale];
            case 9:
                return sales.rebates[sale];
            default:
                throw new IllegalArgumentException("what is not 0 to 9");
        }
    }

    public int ofLease(int lease, int what)
            throws IndexOutOfBoundsException, IllegalArgumentException {
        if (!leases.has(lease)) {
            throw new IndexOutOfBoundsException("no such lease");
        }
        switch (what) {
            case 0:
                return leases.thing[lease];
            case 1:
                return leases.person[lease];
            case 2:
                return leases.isEnded[lease] ? 1 : 0;
            case 3:
                return leases.rents[lease];
            case 4:
                return leases.rentSum[lease];
            case 5:
                return leases.isEnded[lease] ? NONE : leases.nextDay[lease];
            default:
                throw new IllegalArgumentException("what is not 0 to 5");
        }
    }

    public int ofVenture(int venture, int person, int what)
            throws IndexOutOfBoundsException, IllegalArgumentException {
        if (!ventures.has(venture) || !isParty(person)) {
            throw new IndexOutOfBoundsException("no such venture, or one of people");
        }
        int party = placeOf(person);
        switch (what) {
            case 0:
                return ventures.capitalOf(venture, party);
            case 1:
                return ventures.shareOf(venture, party);
            case 2:
                return ventures.gainOf(venture, party);
            default:
                throw new IllegalArgumentException("what is not 0 to 2");
        }
    }

    public int ofFirm(int firm, int what)
            throws IndexOutOfBoundsException, IllegalArgumentException {
        if (!firms.has(firm)) {
            throw new IndexOutOfBoundsException("no such firm");
        }
        switch (what) {
            case 0:
                return firms.isClean(firm) ? 1 : 0;
            case 1:
                return firms.isHeld(firm) ? 1 : 0;
            case 2:
                return firms.given[firm];
            case 3:
                return firms.prices(1 << firm);
            case 4:
                return firms.gains(1 << firm);
            default:
                throw new IllegalArgumentException("what is not 0 to 4");
        }
    }

    public boolean allowed(int question, int day)
            throws IndexOutOfBoundsException, IllegalArgumentException {
        if (!isIn(question, 0, Board.QUESTIONS - 1)) {
            throw new IndexOutOfBoundsException("no such question");
        }
        if (!isIn(day, 0, this.day)) {
            throw new IllegalArgumentException("the day is not 0 to this day");
        }
        return day == this.day ? board.isAllowedNow(question) : board.wasAllowed(question, day);
    }

    public int house(int what) throws IllegalArgumentException {
        switch (what) {
            case 0:
                return day;
            case 1:
                return purses.cash[HOUSE];
            case 2:
                return purses.charity;
            case 3:
                return pool.reserve;
            case 4:
                return pool.deposits();
            case 5:
                return benchmark;
            case 6:
                return sales.count;
            case 7:
                return sales.countVoid();
            case 8:
                return sales.countDone();
            case 9:
                return leases.countOpen();
            case 10:
                return ventures.count;
            case 11:
                return firms.held;
            case 12:
                return things.ownedBy(HOUSE);
            case 13:
                return purses.cashOfPeople();
            case 14:
                return pool.target;
            case 15:
                return pool.management;
            default:
                throw new IllegalArgumentException("what is not 0 to 15");
        }
    }

    public String tell(int sale) throws IndexOutOfBoundsException {
        if (!sales.has(sale)) {
            throw new IndexOutOfBoundsException("no such sale");
        }
        StringBuilder line = new StringBuilder();
        line.append("sale ").append(sale).append(": ").append(sales.price[sale]);
        line.append(" in ").append(sales.parts[sale]);
        if (sales.isVoid(sale)) {
            line.append(", void");
        } else if (sales.isDone(sale)) {
            line.append(", done");
        } else {
            line.append(", ").append(sales.partsLeft(sale)).append(" left");
        }
        return line.toString();
    }

    // ---- what would be

    public int pillars(int thing, int buyer) throws IndexOutOfBoundsException {
        if (!things.has(thing) || !purses.has(buyer)) {
            throw new IndexOutOfBoundsException("no such thing, or buyer");
        }
        return missingPillars(thing, buyer);
    }

    public int best(int budget, boolean isSet) throws IllegalArgumentException {
        if (!isIn(budget, 0, 999)) {
            throw new IllegalArgumentException("budget is not 0 to 999");
        }
        int holding = firms.bestHolding(budget);
        return isSet ? holding : firms.gains(holding);
    }

    public int wouldShare(int profit, int person)
            throws IndexOutOfBoundsException, IllegalArgumentException {
        if (!purses.has(person)) {
            throw new IndexOutOfBoundsException("no such one of people");
        }
        if (!isIn(profit, 0, 9999)) {
            throw new IllegalArgumentException("profit is not 0 to 9999");
        }
        int rest = pool.leftByManagement(profit);
        int shared = pool.smoothed(rest, board.isAllowedNow(KEPT_RESERVE));
        return pool.portionOf(person, shared, pool.weights());
    }

    public boolean isSound() {
        return pool.isInOrder() && ventures.isInOrder() && things.isInOrder()
                && sales.isInOrder() && sales.allFees() <= purses.charity;
    }

    public long digest() {
        long sum = 7307;
        for (int what = 0; what <= 15; what++) {
            sum = sum * 31 + house(what);
        }
        sum = addPeople(sum);
        sum = addThings(sum);
        sum = addSales(sum);
        sum = addLeases(sum);
        sum = addVentures(sum);
        sum = addFirms(sum);
        for (int question = 0; question < Board.QUESTIONS; question++) {
            sum = sum * 31 + (board.isAllowedNow(question) ? 1 : 0);
        }
        sum = sum * 31 + best(100, false);
        sum = sum * 31 + best(100, true);
        return sum * 31 + (isSound() ? 1 : 0);
    }

    // ---- the digest, kind by kind

    private long addPeople(long start) {
        long sum = start;
        for (int person = 0; person < purses.count; person++) {
            for (int what = 0; what <= 7; what++) {
                sum = sum * 31 + ofPerson(person, what);
            }
        }
        return sum;
    }

    private long addThings(long start) {
        long sum = start;
        for (int thing = 0; thing < things.count; thing++) {
            for (int what = 1; what <= 6; what++) {
                sum = sum * 31 + ofThing(thing, what);
            }
        }
        return sum;
    }

    private long addSales(long start) {
        long sum = start;
        for (int sale = 0; sale < sales.count; sale++) {
            for (int what = 2; what <= 9; what++) {
                sum = sum * 31 + ofSale(sale, what);
            }
        }
        return sum;
    }

    private long addLeases(long start) {
        long sum = start;
        for (int lease = 0; lease < leases.count; lease++) {
            for (int what = 2; what <= 5; what++) {
                sum = sum * 31 + ofLease(lease, what);
            }
        }
        return sum;
    }

    private long addVentures(long start) {
        long sum = start;
        for (int venture = 0; venture < ventures.count; venture++) {
            for (int person = 0; person < purses.count; person++) {
                sum = addPartner(sum, venture, person);
            }
            sum = addPartner(sum, venture, NONE);
        }
        return sum;
    }

    private long addPartner(long start, int venture, int person) {
        long sum = start;
        for (int what = 0; what <= 2; what++) {
            sum = sum * 31 + ofVenture(venture, person, what);
        }
        return sum;
    }

    private long addFirms(long start) {
        long sum = start;
        for (int firm = 0; firm < firms.count; firm++) {
            for (int what = 0; what <= 2; what++) {
                sum = sum * 31 + ofFirm(firm, what);
            }
        }
        return sum;
    }

    // ---- what several calls share

    private static boolean isIn(int number, int least, int most) {
        return number >= least && number <= most;
    }

    // The one place that divides by a number that is not written out.
    private static int portion(long amount, long part, long whole) {
        return whole > 0 ? (int) (amount * part / whole) : 0;
    }

    private boolean isParty(int person) {
        return person == NONE || purses.has(person);
    }

    private static int placeOf(int person) {
        return person == NONE ? HOUSE : person;
    }

    private int missingPillars(int thing, int buyer) {
        int missing = 0;
        if (things.owner[thing] != HOUSE) {
            missing |= 1;
        } else if (!things.isHeld[thing] && !board.isAllowedNow(EARLY_SALE)) {
            missing |= 2;
        }
        if (things.isRuined[thing]) {
            missing |= 4;
        }
        if (things.seller[thing] == buyer) {
            missing |= 8;
        }
        return missing;
    }

    private boolean canLease(int thing, int person) {
        return things.owner[thing] == HOUSE && things.isHeld[thing] && !things.isRuined[thing]
                && !things.isLeased(thing)
                && (things.seller[thing] != person || board.isAllowedNow(LEASE_TO_SELLER));
    }

    private void shareProfit(int venture, int profit) {
        int left = profit;
        // What is left holds the part of the HOUSE too.
        for (int party = 0; party < HOUSE; party++) {
            int part = portion(profit, ventures.shareOf(venture, party), 100);
            creditProfit(venture, party, part);
            left -= part;
        }
        creditProfit(venture, HOUSE, left);
    }

    private void creditProfit(int venture, int party, int amount) {
        ventures.addGain(venture, party, amount);
        purses.add(party, amount);
    }

    private void collectRents() {
        for (int lease = 0; lease < leases.count; lease++) {
            if (leases.isDue(lease, day)) {
                int rent = leases.collect(lease, benchmark);
                purses.move(leases.person[lease], HOUSE, rent);
            }
        }
    }

    /** Who is for which QUESTION, and what was ALLOWED on the DAYS that are over. */
    private static final class Board {
        static final int SCHOLARS = 5;
        static final int QUESTIONS = 5;

        // Question by question the set of SCHOLARS that are for it.
        final int[] supporters = new int[QUESTIONS];
        // DAY by DAY the set of QUESTIONS that were ALLOWED as it ended.
        final byte[] past = new byte[LAST_DAY + 1];

        Board() {
            for (int question = 0; question < QUESTIONS; question++) {
                supporters[question] = (1 << SCHOLARS) - 1;
            }
        }

        void vote(int scholar, int question, boolean isFor) {
            if (isFor) {
                supporters[question] |= 1 << scholar;
            } else {
                supporters[question] &= ~(1 << scholar);
            }
        }

        int votesFor(int question) {
            return Integer.bitCount(supporters[question]);
        }

        boolean isAllowedNow(int question) {
            return votesFor(question) >= 3;
        }

        boolean wasAllowed(int question, int day) {
            return (past[day] >> question & 1) == 1;
        }

        void endDay(int day) {
            int questions = 0;
            for (int question = 0; question < QUESTIONS; question++) {
                if (isAllowedNow(question)) {
                    questions |= 1 << question;
                }
            }
            past[day] = (byte) questions;
        }
    }

    /** CASH of PEOPLE and, behind them, of the HOUSE; and CHARITY. */
    private static final class Purses {
        int count = 0;
        int charity = 0;
        final int[] cash = new int[HOUSE + 1];

        Purses() {
            cash[HOUSE] = 10000;
        }

        boolean has(int person) {
            return person >= 0 && person < count;
        }

        int open(int amount) {
            cash[count] = amount;
            return count++;
        }

        // The MARKET has no purse: what it is paid goes to nobody.
        void add(int party, int amount) {
            if (isIn(party, 0, HOUSE)) {
                cash[party] += amount;
            }
        }

        void move(int from, int to, int amount) {
            add(from, -amount);
            add(to, amount);
        }

        void giveAway(int party, int amount) {
            add(party, -amount);
            charity += amount;
        }

        void giveAlms() {
            for (int person = 0; person < count; person++) {
                if (cash[person] >= 85) {
                    giveAway(person, cash[person] / 40);
                }
            }
        }

        int cashOfPeople() {
            int sum = 0;
            for (int person = 0; person < count; person++) {
                sum += cash[person];
            }
            return sum;
        }
    }

    /** The things, and how the HOUSE came by each of them last. */
    private static final class Things {
        static final int MOST = 16;

        int count = 0;
        final int[] worth = new int[MOST];
        final int[] owner = new int[MOST];
        final boolean[] isHeld = new boolean[MOST];
        final boolean[] isRuined = new boolean[MOST];
        final int[] cost = new int[MOST];
        final int[] seller = new int[MOST];
        final int[] lease = new int[MOST];

        boolean has(int thing) {
            return thing >= 0 && thing < count;
        }

        boolean isLeased(int thing) {
            return lease[thing] != NONE;
        }

        int add(int itsWorth, int itsOwner) {
            worth[count] = itsWorth;
            owner[count] = itsOwner;
            isHeld[count] = true;
            seller[count] = NONE;
            lease[count] = NONE;
            return count++;
        }

        void acquire(int thing) {
            cost[thing] = worth[thing];
            seller[thing] = owner[thing];
            owner[thing] = HOUSE;
            isHeld[thing] = false;
        }

        void handOver(int thing, int to) {
            owner[thing] = to;
            isHeld[thing] = true;
        }

        int ownedBy(int party) {
            int owned = 0;
            for (int thing = 0; thing < count; thing++) {
                if (owner[thing] == party) {
                    owned++;
                }
            }
            return owned;
        }

        int heldByHouse() {
            int held = 0;
            for (int thing = 0; thing < count; thing++) {
                if (owner[thing] == HOUSE && isHeld[thing]) {
                    held++;
                }
            }
            return held;
        }

        boolean isInOrder() {
            for (int thing = 0; thing < count; thing++) {
                if (isLeased(thing) && (owner[thing] != HOUSE || isRuined[thing])) {
                    return false;
                }
            }
            return true;
        }
    }

    /** The SALES, VOID ones among them. */
    private static final class Sales {
        static final int MOST = 12;

        int count = 0;
        final int[] thing = new int[MOST];
        final int[] buyer = new int[MOST];
        final int[] markup = new int[MOST];
        final int[] price = new int[MOST];
        final int[] missing = new int[MOST];
        final int[] parts = new int[MOST];
        final int[] paid = new int[MOST];
        final int[] start = new int[MOST];
        final int[] fees = new int[MOST];
        final int[] rebates = new int[MOST];

        boolean has(int sale) {
            return sale >= 0 && sale < count;
        }

        int add(int what, int who, int cost, int percent, int inParts, int pillarsMissing,
                int day) {
            thing[count] = what;
            buyer[count] = who;
            markup[count] = percent;
            price[count] = cost + cost * percent / 100;
            missing[count] = pillarsMissing;
            parts[count] = inParts;
            start[count] = day;
            return count++;
        }

        boolean isVoid(int sale) {
            return missing[sale] != 0;
        }

        boolean isDone(int sale) {
            return !isVoid(sale) && paid[sale] >= parts[sale];
        }

        boolean isOpen(int sale) {
            return !isVoid(sale) && paid[sale] < parts[sale];
        }

        int partsLeft(int sale) {
            return isOpen(sale) ? parts[sale] - paid[sale] : 0;
        }

        int debt(int sale) {
            return isOpen(sale) ? price[sale] - paid[sale] * plainPart(sale) : 0;
        }

        int plainPart(int sale) {
            return portion(price[sale], 1, parts[sale]);
        }

        int nextPart(int sale) {
            return partsLeft(sale) > 1 ? plainPart(sale) : debt(sale);
        }

        int nextDay(int sale) {
            return isOpen(sale) ? start[sale] + MONTH * (paid[sale] + 1) : NONE;
        }

        int rebate(int sale, int part) {
            return portion(markup[sale], part, 100 + markup[sale]) / 2;
        }

        void settlePart(int sale, int fee, int rebate) {
            paid[sale]++;
            fees[sale] += fee;
            rebates[sale] += rebate;
        }

        int partsLeftOf(int person) {
            int sum = 0;
            for (int sale = 0; sale < count; sale++) {
                sum += buyer[sale] == person ? partsLeft(sale) : 0;
            }
            return sum;
        }

        int debtOf(int person) {
            int sum = 0;
            for (int sale = 0; sale < count; sale++) {
                sum += buyer[sale] == person ? debt(sale) : 0;
            }
            return sum;
        }

        int countVoid() {
            int sum = 0;
            for (int sale = 0; sale < count; sale++) {
                sum += isVoid(sale) ? 1 : 0;
            }
            return sum;
        }

        int countDone() {
            int sum = 0;
            for (int sale = 0; sale < count; sale++) {
                sum += isDone(sale) ? 1 : 0;
            }
            return sum;
        }

        int allFees() {
            int sum = 0;
            for (int sale = 0; sale < count; sale++) {
                sum += fees[sale];
            }
            return sum;
        }

        boolean isInOrder() {
            for (int sale = 0; sale < count; sale++) {
                if (isVoid(sale) && paid[sale] > 0) {
                    return false;
                }
            }
            return true;
        }
    }

    /** The LEASES, those that ENDED among them. */
    private static final class Leases {
        static final int MOST = 8;

        int count = 0;
        final int[] thing = new int[MOST];
        final int[] worth = new int[MOST];
        final int[] person = new int[MOST];
        final int[] floor = new int[MOST];
        final int[] ceiling = new int[MOST];
        final boolean[] isEnded = new boolean[MOST];
        final int[] nextDay = new int[MOST];
        final int[] rents = new int[MOST];
        final int[] rentSum = new int[MOST];

        boolean has(int lease) {
            return lease >= 0 && lease < count;
        }

        int add(int what, int itsWorth, int who, int least, int most, int day) {
            thing[count] = what;
            worth[count] = itsWorth;
            person[count] = who;
            floor[count] = least;
            ceiling[count] = most;
            nextDay[count] = day + MONTH;
            return count++;
        }

        // NONE is let, so that a thing without a LEASE needs no question before.
        void close(int lease) {
            if (has(lease)) {
                isEnded[lease] = true;
            }
        }

        boolean isDue(int lease, int day) {
            return !isEnded[lease] && nextDay[lease] == day;
        }

        int collect(int lease, int benchmark) {
            int rate = Math.min(Math.max(benchmark, floor[lease]), ceiling[lease]);
            int rent = worth[lease] * rate / 1000;
            nextDay[lease] += MONTH;
            rents[lease]++;
            rentSum[lease] += rent;
            return rent;
        }

        int openOf(int who) {
            int open = 0;
            for (int lease = 0; lease < count; lease++) {
                open += !isEnded[lease] && person[lease] == who ? 1 : 0;
            }
            return open;
        }

        int countOpen() {
            int open = 0;
            for (int lease = 0; lease < count; lease++) {
                open += isEnded[lease] ? 0 : 1;
            }
            return open;
        }
    }

    /** The VENTURES: PEOPLE and the HOUSE have a place in each, PARTNERS or not. */
    private static final class Ventures {
        static final int MOST = 6;
        static final int PLACES = HOUSE + 1;

        int count = 0;
        final boolean[] partner = new boolean[MOST * PLACES];
        final int[] capital = new int[MOST * PLACES];
        final int[] percent = new int[MOST * PLACES];
        final int[] gain = new int[MOST * PLACES];

        boolean has(int venture) {
            return venture >= 0 && venture < count;
        }

        int begin() {
            return count++;
        }

        int at(int venture, int party) {
            return venture * PLACES + party;
        }

        boolean isPartner(int venture, int party) {
            return partner[at(venture, party)];
        }

        int capitalOf(int venture, int party) {
            return capital[at(venture, party)];
        }

        int shareOf(int venture, int party) {
            return percent[at(venture, party)];
        }

        int gainOf(int venture, int party) {
            return gain[at(venture, party)];
        }

        void admit(int venture, int party, int itsCapital, int itsShare) {
            int place = at(venture, party);
            partner[place] = true;
            capital[place] = itsCapital;
            percent[place] = itsShare;
        }

        void addGain(int venture, int party, int amount) {
            gain[at(venture, party)] += amount;
        }

        void moveCapital(int venture, int from, int to, int amount) {
            capital[at(venture, from)] -= amount;
            capital[at(venture, to)] += amount;
        }

        void bearLoss(int venture, int loss) {
            int all = capitals(venture);
            int borne = Math.min(loss, all);
            int left = borne;
            for (int party = 0; party < PLACES; party++) {
                int part = portion(borne, capitalOf(venture, party), all);
                capital[at(venture, party)] -= part;
                left -= part;
            }
            // One round is enough: all whose part was rounded down have CAPITAL still, and what
            // is left is less than 1 of each of them.
            for (int party = 0; party < PLACES; party++) {
                if (left > 0 && capitalOf(venture, party) > 0) {
                    capital[at(venture, party)]--;
                    left--;
                }
            }
        }

        int capitals(int venture) {
            int sum = 0;
            for (int party = 0; party < PLACES; party++) {
                sum += capitalOf(venture, party);
            }
            return sum;
        }

        int shares(int venture) {
            int sum = 0;
            for (int party = 0; party < PLACES; party++) {
                sum += shareOf(venture, party);
            }
            return sum;
        }

        int capitalEverywhere(int party) {
            int sum = 0;
            for (int venture = 0; venture < count; venture++) {
                sum += capitalOf(venture, party);
            }
            return sum;
        }

        boolean isInOrder() {
            for (int venture = 0; venture < count; venture++) {
                if (shares(venture) > 100) {
                    return false;
                }
                for (int party = 0; party < PLACES; party++) {
                    if (capitalOf(venture, party) < 0) {
                        return false;
                    }
                }
            }
            return true;
        }
    }

    /** DEPOSITS with their WEIGHTS, and the RESERVE. */
    private static final class Pool {
        static final int MOST = 99999;

        final int[] deposit = new int[MAX_PEOPLE];
        final int[] weight = new int[MAX_PEOPLE];
        int reserve = 0;
        int target = 100;
        int management = 20;

        void endDay() {
            for (int person = 0; person < MAX_PEOPLE; person++) {
                weight[person] += deposit[person];
            }
        }

        int leftByManagement(int profit) {
            return profit - profit * management / 100;
        }

        // What is above the answer goes to the RESERVE, what is below it comes out of it.
        int smoothed(int rest, boolean isKept) {
            if (!isKept) {
                return rest;
            }
            return rest > target ? target : rest + Math.min(target - rest, reserve);
        }

        // Eight WEIGHTS together can be more than an int holds.
        long weights() {
            long sum = 0;
            for (int person = 0; person < MAX_PEOPLE; person++) {
                sum += weight[person];
            }
            return sum;
        }

        int portionOf(int person, int shared, long weights) {
            return Math.min(portion(shared, weight[person], weights), MOST - deposit[person]);
        }

        int payOut(int shared) {
            long weights = weights();
            int given = 0;
            for (int person = 0; person < MAX_PEOPLE; person++) {
                int part = portionOf(person, shared, weights);
                deposit[person] += part;
                weight[person] = 0;
                given += part;
            }
            return given;
        }

        int deposits() {
            int sum = 0;
            for (int person = 0; person < MAX_PEOPLE; person++) {
                sum += deposit[person];
            }
            return sum;
        }

        boolean isInOrder() {
            for (int person = 0; person < MAX_PEOPLE; person++) {
                if (deposit[person] < 0) {
                    return false;
                }
            }
            return reserve >= 0;
        }
    }

    /** The FIRMS, with the sums of every set of them. */
    private static final class Firms {
        static final int MOST = 10;

        int count = 0;
        int clean = 0;
        int held = 0;
        final int[] assets = new int[MOST];
        final int[] doubt = new int[MOST];
        final int[] given = new int[MOST];
        // A new FIRM fills the sets that it is in, so that no search adds up a set anew.
        final int[] priceSum = new int[1 << MOST];
        final int[] gainSum = new int[1 << MOST];

        boolean has(int firm) {
            return firm >= 0 && firm < count;
        }

        boolean isSet(int set) {
            return set >= 0 && set < 1 << count;
        }

        int add(int itsAssets, int itsDoubt, int price, int gain, boolean clears) {
            assets[count] = itsAssets;
            doubt[count] = itsDoubt;
            int itself = 1 << count;
            for (int others = 0; others < itself; others++) {
                priceSum[others | itself] = priceSum[others] + price;
                gainSum[others | itself] = gainSum[others] + gain;
            }
            if (clears) {
                clean |= itself;
            }
            return count++;
        }

        boolean isClean(int firm) {
            return (clean >> firm & 1) == 1;
        }

        boolean isHeld(int firm) {
            return (held >> firm & 1) == 1;
        }

        int prices(int set) {
            return isSet(set) ? priceSum[set] : 0;
        }

        int gains(int set) {
            return isSet(set) ? gainSum[set] : 0;
        }

        int tainted(int firm, int dividend) {
            int roundingUp = assets[firm] - 1;
            int product = dividend * doubt[firm];
            return Math.min(portion(product + roundingUp, 1, assets[firm]), dividend);
        }

        int bestHolding(int budget) {
            int best = 0;
            for (int set = 1; set < 1 << count; set++) {
                // Sets rise, so that of equals the smallest one stays.
                if ((set & ~clean) == 0 && priceSum[set] <= budget && isBetter(set, best)) {
                    best = set;
                }
            }
            return best;
        }

        boolean isBetter(int set, int than) {
            return gainSum[set] > gainSum[than]
                    || gainSum[set] == gainSum[than] && priceSum[set] < priceSum[than];
        }
    }
}
