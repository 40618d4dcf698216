/**
 * Long runs of calls by chance (the same ones each time): a call throws nothing but what the face
 * names and then changes nothing, a question changes nothing, all stays SOUND, and no money comes
 * or goes but by the ways that the document has.
 */
public final class RandomCallsTest {
    private static final int RUNS = 300;
    private static final int CALLS = 400;
    private static final int[] ODD = {-2, -1, 0, 1, 2, 7, 8, 9, 12, 16, 99, 100, 999, 1000, 9999,
        10000, Integer.MAX_VALUE, Integer.MIN_VALUE};

    private long seed;
    private RibafreeHouse x;
    private long money;

    public static void main(String[] args) {
        for (int run = 1; run <= RUNS; run++) {
            new RandomCallsTest().run(run);
        }
        Check.end();
    }

    private int below(int bound) {
        seed = seed * 6364136223846793005L + 1442695040888963407L;
        return (int) ((seed >>> 33) % bound);
    }

    /** Mostly least to most, at times something odd. */
    private int from(int least, int most) {
        if (below(25) == 0) {
            return ODD[below(ODD.length)];
        }
        return least + below(most - least + 1);
    }

    private void run(int number) {
        seed = number;
        x = new RibafreeHouse();
        money = total();
        for (int call = 0; call < CALLS; call++) {
            long before = x.digest();
            String threw = act(call < 60 ? call % 12 : below(33));
            if (threw != null) {
                Check.is("run " + number + ", a call that threw " + threw, x.digest(), before);
            }
            Check.is("run " + number + ", money at call " + call, total(), money);
            Check.is("run " + number + ", isSound()", x.isSound(), true);
        }
    }

    private long total() {
        long sum = x.house(1) + x.house(2) + x.house(3) + x.house(4) + x.house(13);
        for (int venture = 0; venture < x.house(10); venture++) {
            sum += capitals(venture);
        }
        return sum;
    }

    private long capitals(int venture) {
        long sum = x.ofVenture(venture, -1, 0);
        for (int person = 0; person < 8; person++) {
            try {
                sum += x.ofVenture(venture, person, 0);
            } catch (IndexOutOfBoundsException nobody) {
                person = 8;
            }
        }
        return sum;
    }

    private String act(int kind) {
        try {
            if (kind < 21) {
                change(kind);
            } else {
                long before = x.digest();
                ask(kind);
                Check.is("question " + kind, x.digest(), before);
            }
            return null;
        } catch (RuntimeException thrown) {
            Class<?> type = thrown.getClass();
            boolean isNamed = type == Check.INDEX || type == Check.ARGUMENT || type == Check.STATE;
            Check.is("kind " + kind + " threw " + type, isNamed, true);
            return type.getSimpleName();
        }
    }

    private void change(int kind) {
        switch (kind) {
            case 0: {
                int cash = from(0, 9999);
                x.person(cash);
                money += cash;
                break;
            }
            case 1:
                x.thing(from(1, 999), from(-1, 3));
                break;
            case 2: {
                int thing = from(0, 8);
                boolean isOfMarket = x.ofThing(thing, 1) == 9;
                int paid = x.buy(thing);
                money -= isOfMarket ? paid : 0;
                break;
            }
            case 3:
                x.take(from(0, 8));
                break;
            case 4:
                x.venture();
                break;
            case 5:
                x.join(from(0, 3), from(-1, 6), from(1, 300), from(0, 25));
                break;
            case 6:
                x.firm(from(100, 999), from(0, 150), from(0, 200), from(0, 20), from(1, 99),
                        from(0, 99));
                break;
            case 7:
                x.deposit(from(0, 4), from(-500, 900));
                break;
            case 8:
                x.sell(from(0, 8), from(0, 4), from(0, 99), from(1, 12));
                break;
            case 9:
                x.lease(from(0, 8), from(0, 4), from(0, 40), from(40, 99));
                break;
            case 10:
                x.pass(from(1, 25));
                break;
            case 11:
                x.pay(from(0, 6));
                break;
            default:
                changeMore(kind);
        }
    }

    private void changeMore(int kind) {
        switch (kind) {
            case 12:
                x.hold(from(0, 4), from(0, 4), below(3) > 0);
                break;
            case 13:
                x.benchmark(from(0, 99));
                break;
            case 14:
                x.end(from(0, 7), below(2) == 0);
                break;
            case 15:
                result(from(0, 3), from(-999, 999), below(2) == 0 ? -2 : from(-1, 6));
                break;
            case 16:
                x.buyOut(from(0, 3), from(-1, 6), from(-1, 6), from(1, 50));
                break;
            case 17: {
                int profit = from(0, 900);
                x.share(profit, from(0, 300), from(0, 50));
                money += profit;
                break;
            }
            case 18: {
                int before = x.house(1);
                money += x.invest(from(0, 31)) - before;
                break;
            }
            case 19: {
                int dividend = from(0, 999);
                x.dividend(from(0, 4), dividend);
                money += dividend;
                break;
            }
            default:
                x.ruin(from(0, 60));
        }
    }

    private void result(int venture, int result, int careless) {
        long before = venture >= 0 && venture < x.house(10) ? capitals(venture) : 0;
        x.result(venture, result, careless);
        boolean isBorneByCapital = result < 0 && careless == -2;
        money += isBorneByCapital ? Math.max(result, -before) : result;
    }

    private void ask(int kind) {
        switch (kind) {
            case 21:
                x.ofPerson(from(0, 7), from(0, 7));
                break;
            case 22:
                x.ofThing(from(0, 15), from(0, 6));
                break;
            case 23:
                x.ofSale(from(0, 11), from(0, 9));
                break;
            case 24:
                x.ofLease(from(0, 7), from(0, 5));
                break;
            case 25:
                x.ofVenture(from(0, 5), from(-1, 7), from(0, 2));
                break;
            case 26:
                x.ofFirm(from(0, 9), from(0, 4));
                break;
            case 27:
                x.allowed(from(0, 4), from(0, 4000));
                break;
            case 28:
                x.house(from(0, 15));
                break;
            case 29:
                x.tell(from(0, 11));
                break;
            case 30:
                x.pillars(from(0, 15), from(0, 7));
                break;
            case 31:
                x.best(from(0, 999), below(2) == 0);
                break;
            default:
                x.wouldShare(from(0, 9999), from(0, 7));
        }
    }
}
