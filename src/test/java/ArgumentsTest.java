/**
 * Every argument of every call: the least and the greatest that it takes are let, and what is one
 * less, one more, or as far out as an int goes, is refused as the document says.
 */
public final class ArgumentsTest {
    private interface Made {
        RibafreeHouse house();
    }

    private interface Call {
        void with(RibafreeHouse x, int argument);
    }

    public static void main(String[] args) {
        board();
        things();
        sales();
        leases();
        joining();
        results();
        buyingOut();
        pool();
        amounts();
        firms();
        shares();
        days();
        askedByNumber();
        askedByWhat();
        whatWouldBe();
        Check.end();
    }

    private static void bounds(String argument, int least, int most, Class<?> beyond, Made made,
            Call call) {
        for (int good : new int[] {least, most}) {
            RibafreeHouse x = made.house();
            Check.lets(argument + " " + good, () -> call.with(x, good));
        }
        RibafreeHouse x = made.house();
        int[] outside = {least - 1, most + 1, Integer.MIN_VALUE, Integer.MAX_VALUE};
        for (int bad : outside) {
            Check.fails(argument + " " + bad, beyond, x, () -> call.with(x, bad));
        }
    }

    private static RibafreeHouse three() {
        return Check.withThings(100, 100, 100, 100);
    }

    private static RibafreeHouse bought() {
        return Check.withBought(100, 100, 100, 100);
    }

    private static RibafreeHouse held() {
        return Check.withHeld(100, 100, 100, 100);
    }

    private static RibafreeHouse sold() {
        RibafreeHouse x = bought();
        for (int thing = 0; thing < 4; thing++) {
            x.sell(thing, 0, 10, 2);
        }
        return x;
    }

    private static RibafreeHouse leased() {
        RibafreeHouse x = held();
        for (int thing = 0; thing < 4; thing++) {
            x.lease(thing, 0, 0, 99);
        }
        return x;
    }

    private static RibafreeHouse ventures() {
        RibafreeHouse x = three();
        x.venture();
        x.venture();
        return x;
    }

    private static RibafreeHouse partners() {
        RibafreeHouse x = ventures();
        for (int person = -1; person <= 2; person++) {
            x.join(0, person, 999, 25);
            x.join(1, person, 999, 25);
        }
        return x;
    }

    private static RibafreeHouse market() {
        RibafreeHouse x = three();
        for (int firm = 0; firm < 4; firm++) {
            x.firm(100, 0, 0, 5, 10, 10);
        }
        x.invest(15);
        return x;
    }

    private static RibafreeHouse later() {
        RibafreeHouse x = three();
        x.pass(7);
        return x;
    }

    private static void board() {
        bounds("scholar", 0, 4, Check.INDEX, RibafreeHouse::new, (x, n) -> x.hold(n, 0, false));
        bounds("question", 0, 4, Check.INDEX, RibafreeHouse::new, (x, n) -> x.hold(0, n, false));
        bounds("cash", 0, 9999, Check.ARGUMENT, RibafreeHouse::new, (x, n) -> x.person(n));
    }

    private static void things() {
        bounds("worth", 1, 999, Check.ARGUMENT, ArgumentsTest::three, (x, n) -> x.thing(n, -1));
        bounds("owner", -1, 2, Check.INDEX, ArgumentsTest::three, (x, n) -> x.thing(1, n));
        bounds("buy", 0, 3, Check.INDEX, ArgumentsTest::three, (x, n) -> x.buy(n));
        bounds("take", 0, 3, Check.INDEX, ArgumentsTest::bought, (x, n) -> x.take(n));
        bounds("ruin", 0, 3, Check.INDEX, ArgumentsTest::three, (x, n) -> x.ruin(n));
    }

    private static void sales() {
        Made bought = ArgumentsTest::bought;
        bounds("sold thing", 0, 3, Check.INDEX, bought, (x, n) -> x.sell(n, 0, 0, 1));
        bounds("buyer", 0, 2, Check.INDEX, bought, (x, n) -> x.sell(0, n, 0, 1));
        bounds("markup", 0, 99, Check.ARGUMENT, bought, (x, n) -> x.sell(0, 0, n, 1));
        bounds("parts", 1, 12, Check.ARGUMENT, bought, (x, n) -> x.sell(0, 0, 0, n));
        bounds("pay", 0, 3, Check.INDEX, ArgumentsTest::sold, (x, n) -> x.pay(n));
    }

    private static void leases() {
        Made held = ArgumentsTest::held;
        bounds("benchmark", 0, 99, Check.ARGUMENT, held, (x, n) -> x.benchmark(n));
        bounds("leased thing", 0, 3, Check.INDEX, held, (x, n) -> x.lease(n, 0, 0, 0));
        bounds("to whom", 0, 2, Check.INDEX, held, (x, n) -> x.lease(0, n, 0, 0));
        bounds("floor", 0, 99, Check.ARGUMENT, held, (x, n) -> x.lease(0, 0, n, 99));
        bounds("ceiling", 0, 99, Check.ARGUMENT, held, (x, n) -> x.lease(0, 0, 0, n));
        bounds("floor below 50", 0, 50, Check.ARGUMENT, held, (x, n) -> x.lease(0, 0, n, 50));
        bounds("ceiling above 50", 50, 99, Check.ARGUMENT, held, (x, n) -> x.lease(0, 0, 50, n));
        bounds("end", 0, 3, Check.INDEX, ArgumentsTest::leased, (x, n) -> x.end(n, true));
    }

    private static void joining() {
        Made made = ArgumentsTest::ventures;
        bounds("joined venture", 0, 1, Check.INDEX, made, (x, n) -> x.join(n, 0, 1, 1));
        bounds("partner", -1, 2, Check.INDEX, made, (x, n) -> x.join(0, n, 1, 1));
        bounds("capital", 1, 999, Check.ARGUMENT, made, (x, n) -> x.join(0, 0, n, 1));
        bounds("share", 0, 100, Check.ARGUMENT, made, (x, n) -> x.join(0, 0, 1, n));
    }

    private static void results() {
        Made made = ArgumentsTest::partners;
        bounds("venture of a result", 0, 1, Check.INDEX, made, (x, n) -> x.result(n, 1, -2));
        bounds("result", -999, 999, Check.ARGUMENT, made, (x, n) -> x.result(0, n, -2));
        bounds("careless", -2, 2, Check.INDEX, made, (x, n) -> x.result(0, -1, n));
    }

    private static void buyingOut() {
        Made made = ArgumentsTest::partners;
        bounds("venture", 0, 1, Check.INDEX, made, (x, n) -> x.buyOut(n, 0, 1, 1));
        bounds("from", -1, 2, Check.INDEX, made, (x, n) -> x.buyOut(0, n, 1, 1));
        bounds("to", -1, 2, Check.INDEX, made, (x, n) -> x.buyOut(0, 1, n, 1));
        bounds("capital", 1, 999, Check.ARGUMENT, made, (x, n) -> x.buyOut(0, 0, 1, n));
    }

    private static void pool() {
        Made made = ArgumentsTest::three;
        bounds("depositor", 0, 2, Check.INDEX, made, (x, n) -> x.deposit(n, 1));
        bounds("profit", 0, 9999, Check.ARGUMENT, made, (x, n) -> x.share(n, 0, 0));
        bounds("target", 0, 999, Check.ARGUMENT, made, (x, n) -> x.share(0, n, 0));
        bounds("management", 0, 50, Check.ARGUMENT, made, (x, n) -> x.share(0, 0, n));
    }

    /** One of PEOPLE with a DEPOSIT of 9999 and CASH of 9999. */
    private static RibafreeHouse rich() {
        RibafreeHouse x = Check.withPeople(9999);
        x.deposit(0, 9999);
        for (int thing = 0; thing < 11; thing++) {
            x.thing(909, 0);
            x.buy(thing);
        }
        Check.is("CASH", x.ofPerson(0, 0), 9999);
        return x;
    }

    private static void amounts() {
        Call deposit = (x, n) -> x.deposit(0, n);
        bounds("amount", -9999, 9999, Check.ARGUMENT, ArgumentsTest::rich, deposit);
        RibafreeHouse x = rich();
        Check.lets("amount -1", () -> x.deposit(0, -1));
        Check.lets("amount 1", () -> x.deposit(0, 1));
        Check.fails("amount 0", Check.ARGUMENT, x, () -> x.deposit(0, 0));
    }

    private static void firms() {
        Class<?> due = Check.ARGUMENT;
        Made made = RibafreeHouse::new;
        bounds("assets", 1, 999, due, made, (x, n) -> x.firm(n, 0, 0, 0, 1, 0));
        bounds("debt", 0, 999, due, made, (x, n) -> x.firm(1, n, 0, 0, 1, 0));
        bounds("liquid", 0, 999, due, made, (x, n) -> x.firm(1, 0, n, 0, 1, 0));
        bounds("doubt", 0, 999, due, made, (x, n) -> x.firm(1, 0, 0, n, 1, 0));
        bounds("price", 1, 99, due, made, (x, n) -> x.firm(1, 0, 0, 0, n, 0));
        bounds("gain", 0, 99, due, made, (x, n) -> x.firm(1, 0, 0, 0, 1, n));
    }

    private static void shares() {
        Made made = ArgumentsTest::market;
        bounds("firms", 0, 15, Check.ARGUMENT, made, (x, n) -> x.invest(n));
        bounds("no firms", 0, 0, Check.ARGUMENT, RibafreeHouse::new, (x, n) -> x.invest(n));
        bounds("firm", 0, 3, Check.INDEX, made, (x, n) -> x.dividend(n, 1));
        bounds("dividend", 0, 999, Check.ARGUMENT, made, (x, n) -> x.dividend(0, n));
    }

    private static void days() {
        bounds("days", 1, 400, Check.ARGUMENT, RibafreeHouse::new, (x, n) -> x.pass(n));
        Made made = ArgumentsTest::later;
        bounds("asked question", 0, 4, Check.INDEX, made, (x, n) -> x.allowed(n, 0));
        bounds("asked day", 0, 7, Check.ARGUMENT, made, (x, n) -> x.allowed(0, n));
        bounds("the first day", 0, 0, Check.ARGUMENT, RibafreeHouse::new,
                (x, n) -> x.allowed(0, n));
    }

    private static void askedByNumber() {
        Class<?> due = Check.INDEX;
        bounds("ofPerson", 0, 2, due, ArgumentsTest::three, (x, n) -> x.ofPerson(n, 0));
        bounds("ofThing", 0, 3, due, ArgumentsTest::three, (x, n) -> x.ofThing(n, 0));
        bounds("ofSale", 0, 3, due, ArgumentsTest::sold, (x, n) -> x.ofSale(n, 0));
        bounds("tell", 0, 3, due, ArgumentsTest::sold, (x, n) -> x.tell(n));
        bounds("ofLease", 0, 3, due, ArgumentsTest::leased, (x, n) -> x.ofLease(n, 0));
        bounds("ofVenture", 0, 1, due, ArgumentsTest::ventures, (x, n) -> x.ofVenture(n, 0, 0));
        bounds("its person", -1, 2, due, ArgumentsTest::ventures, (x, n) -> x.ofVenture(0, n, 0));
        bounds("ofFirm", 0, 3, due, ArgumentsTest::market, (x, n) -> x.ofFirm(n, 0));
    }

    private static void askedByWhat() {
        Class<?> due = Check.ARGUMENT;
        bounds("what of a person", 0, 7, due, ArgumentsTest::three, (x, n) -> x.ofPerson(0, n));
        bounds("what of a thing", 0, 6, due, ArgumentsTest::three, (x, n) -> x.ofThing(0, n));
        bounds("what of a sale", 0, 9, due, ArgumentsTest::sold, (x, n) -> x.ofSale(0, n));
        bounds("what of a lease", 0, 5, due, ArgumentsTest::leased, (x, n) -> x.ofLease(0, n));
        Made made = ArgumentsTest::ventures;
        bounds("what of a venture", 0, 2, due, made, (x, n) -> x.ofVenture(0, 0, n));
        bounds("what of the house's", 0, 2, due, made, (x, n) -> x.ofVenture(0, -1, n));
        bounds("what of a firm", 0, 4, due, ArgumentsTest::market, (x, n) -> x.ofFirm(0, n));
        bounds("what of the house", 0, 15, due, RibafreeHouse::new, (x, n) -> x.house(n));
    }

    private static void whatWouldBe() {
        Made three = ArgumentsTest::three;
        bounds("pillars of a thing", 0, 3, Check.INDEX, three, (x, n) -> x.pillars(n, 0));
        bounds("pillars of a buyer", 0, 2, Check.INDEX, three, (x, n) -> x.pillars(0, n));
        bounds("budget", 0, 999, Check.ARGUMENT, three, (x, n) -> x.best(n, false));
        bounds("budget of a set", 0, 999, Check.ARGUMENT, three, (x, n) -> x.best(n, true));
        bounds("profit", 0, 9999, Check.ARGUMENT, three, (x, n) -> x.wouldShare(n, 0));
        bounds("person", 0, 2, Check.INDEX, three, (x, n) -> x.wouldShare(0, n));
    }
}
