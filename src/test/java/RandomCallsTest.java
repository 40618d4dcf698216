/**
 * Runs of calls by chance (the same ones each time) on two objects: the first one has all calls,
 * the second one only those that the first one did not refuse. A call throws nothing but what the
 * face names, both answer the same (so that a call that throws changes nothing), all stays SOUND,
 * and no money comes or goes but by the ways that the document has.
 */
public final class RandomCallsTest {
    private static final int RUNS = 1000;
    // With the looks at it between them they stay below 512, behind which all answers are free.
    private static final int CALLS = 400;
    private static final int FIRST = 60;
    private static final long REFUSED = Long.MIN_VALUE;
    private static final int[] ODD = {-2, -1, 0, 1, 2, 7, 8, 9, 12, 16, 99, 100, 999, 1000, 9999,
        10000, Integer.MAX_VALUE, Integer.MIN_VALUE};

    private long seed;
    private RibafreeHouse x;
    private long money = 10000;
    private final long[] capital = new long[6];

    public static void main(String[] args) {
        for (int run = 1; run <= RUNS; run++) {
            run(run);
        }
        Check.end();
    }

    private RandomCallsTest(long seed) {
        this.seed = seed;
        x = new RibafreeHouse();
    }

    private static void run(int number) {
        RandomCallsTest all = new RandomCallsTest(number);
        RandomCallsTest some = new RandomCallsTest(number);
        for (int call = 0; call < CALLS; call++) {
            int kind = call < FIRST ? call % 12 : all.below(35);
            long before = all.seed;
            long answer = all.act(kind);
            if (answer != REFUSED) {
                some.seed = before;
                String told = "run " + number + ", call " + call + " of kind " + kind;
                Check.is(told, some.act(kind), answer);
            }
            if (call % 80 == 79) {
                all.look("run " + number + ", behind call " + call);
            }
        }
        Check.is("run " + number + ", digests", some.x.digest(), all.x.digest());
    }

    private void look(String when) {
        long sum = x.house(1) + x.house(2) + x.house(3) + x.house(4) + x.house(13);
        for (long each : capital) {
            sum += each;
        }
        Check.is(when + ", money", sum, money);
        Check.is(when + ", isSound()", x.isSound(), true);
    }

    private int below(int bound) {
        seed = seed * 6364136223846793005L + 1442695040888963407L;
        return (int) ((seed >>> 33) % bound);
    }

    /** Mostly least to most, at times something odd. */
    private int from(int least, int most) {
        if (below(25) == 0) {
            return ODD[below(ODD.length)];
        }
        return least + below(most - least + 1);
    }

    private long act(int kind) {
        try {
            return kind < 12 ? change(kind) : kind < 21 ? changeMore(kind) : ask(kind);
        } catch (RuntimeException thrown) {
            Class<?> type = thrown.getClass();
            boolean isNamed = type == Check.INDEX || type == Check.ARGUMENT || type == Check.STATE;
            Check.is("kind " + kind + " threw " + type, isNamed, true);
            return REFUSED;
        }
    }

    private long change(int kind) {
        switch (kind) {
            case 0:
                return person(from(0, 9999));
            case 1:
                return x.thing(from(1, 999), from(-1, 3));
            case 2:
                return buy(from(0, 8));
            case 3:
                return x.take(from(0, 8));
            case 4:
                return x.venture();
            case 5:
                return join(from(0, 3), from(-1, 6), from(1, 300), from(0, 25));
            case 6:
                return x.firm(from(100, 999), from(0, 150), from(0, 200), from(0, 20), from(1, 99),
                    from(0, 99));
            case 7:
                return x.deposit(from(0, 4), from(-500, 900));
            case 8:
                return x.sell(from(0, 8), from(0, 4), from(0, 99), from(1, 12));
            case 9:
                return x.lease(from(0, 8), from(0, 4), from(0, 40), from(40, 99));
            case 10:
                return x.pass(from(1, 25));
            default:
                return x.pay(from(0, 6));
        }
    }

    private long changeMore(int kind) {
        switch (kind) {
            case 12:
                return x.hold(from(0, 4), from(0, 4), below(3) > 0);
            case 13:
                return x.benchmark(from(0, 99));
            case 14:
                return x.end(from(0, 7), below(2) == 0);
            case 15:
                return result(from(0, 3), from(-999, 999), below(2) == 0 ? -2 : from(-1, 6));
            case 16:
                return x.buyOut(from(0, 3), from(-1, 6), from(-1, 6), from(1, 50));
            case 17:
                return share(from(0, 900), from(0, 300), from(0, 50));
            case 18:
                return invest(from(0, 31));
            case 19:
                return dividend(from(0, 4), from(0, 999));
            default:
                return x.ruin(from(0, 60));
        }
    }

    private long person(int cash) {
        int person = x.person(cash);
        money += cash;
        return person;
    }

    // What the MARKET is paid goes to nobody.
    private long buy(int thing) {
        boolean isOfMarket = x.ofThing(thing, 1) == 9;
        int paid = x.buy(thing);
        money -= isOfMarket ? paid : 0;
        return paid;
    }

    private long join(int venture, int person, int amount, int share) {
        int shares = x.join(venture, person, amount, share);
        capital[venture] += amount;
        return shares;
    }

    private long result(int venture, int result, int careless) {
        int left = x.result(venture, result, careless);
        boolean isBorneByCapital = result < 0 && careless == -2;
        long due = isBorneByCapital ? Math.max(capital[venture] + result, 0) : capital[venture];
        Check.is("CAPITAL of all", left, due);
        money += isBorneByCapital ? due - capital[venture] : result;
        capital[venture] = due;
        return left;
    }

    private long share(int profit, int target, int management) {
        int shared = x.share(profit, target, management);
        money += profit;
        return shared;
    }

    // PRICES are paid to nobody.
    private long invest(int firms) {
        int before = x.house(1);
        int cash = x.invest(firms);
        money += cash - before;
        return cash;
    }

    private long dividend(int firm, int dividend) {
        int given = x.dividend(firm, dividend);
        money += dividend;
        return given;
    }

    private long ask(int kind) {
        switch (kind) {
            case 21:
                return x.ofPerson(from(0, 7), from(0, 7));
            case 22:
                return x.ofThing(from(0, 15), from(0, 6));
            case 23:
                return x.ofSale(from(0, 11), from(0, 9));
            case 24:
                return x.ofLease(from(0, 7), from(0, 5));
            case 25:
                return x.ofVenture(from(0, 5), from(-1, 7), from(0, 2));
            case 26:
                return x.ofFirm(from(0, 9), from(0, 4));
            case 27:
                return x.allowed(from(0, 4), from(0, 400)) ? 1 : 0;
            case 28:
                return x.house(from(0, 15));
            case 29:
                return x.tell(from(0, 11)).hashCode();
            case 30:
                return x.pillars(from(0, 15), from(0, 7));
            case 31:
                return x.best(from(0, 999), below(2) == 0);
            case 32:
                return x.wouldShare(from(0, 9999), from(0, 7));
            case 33:
                return x.isSound() ? 1 : 0;
            default:
                return x.digest();
        }
    }
}
