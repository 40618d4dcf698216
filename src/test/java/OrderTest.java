/**
 * "If several exceptions apply, the one that is named first is thrown", and "a method that throws
 * an exception changes nothing": calls that are wrong in two or three ways at once.
 */
public final class OrderTest {
    private static final Class<?> INDEX = Check.INDEX;
    private static final Class<?> ARGUMENT = Check.ARGUMENT;

    public static void main(String[] args) {
        person();
        thing();
        sell();
        sellOfLeased();
        lease();
        leaseOfAnother();
        join();
        result();
        buyOut();
        deposit();
        firm();
        invest();
        dividend();
        pass();
        questions();
        wouldBe();
        Check.end();
    }

    private static void person() {
        RibafreeHouse x = Check.withPeople(1, 1, 1, 1, 1, 1, 1, 1);
        Check.fails("there are 8, cash -1", ARGUMENT, x, () -> x.person(-1));
        Check.fails("there are 8, cash 10000", ARGUMENT, x, () -> x.person(10000));
    }

    private static void thing() {
        RibafreeHouse x = Check.withPeople(1);
        Check.fails("owner and worth", INDEX, x, () -> x.thing(0, 1));
        Check.fails("owner and worth", INDEX, x, () -> x.thing(1000, -2));
        for (int thing = 0; thing < 16; thing++) {
            x.thing(1, 0);
        }
        Check.fails("owner, and there are 16", INDEX, x, () -> x.thing(1, 1));
        Check.fails("worth, and there are 16", ARGUMENT, x, () -> x.thing(1000, 0));
        Check.fails("all three", INDEX, x, () -> x.thing(0, -2));
    }

    private static void sell() {
        RibafreeHouse x = Check.withThings(100);
        Check.fails("thing and markup", INDEX, x, () -> x.sell(1, 0, 100, 1));
        Check.fails("thing and parts", INDEX, x, () -> x.sell(-1, 0, 0, 0));
        Check.fails("buyer and markup", INDEX, x, () -> x.sell(0, 3, -1, 1));
        Check.fails("buyer and parts", INDEX, x, () -> x.sell(0, -1, 0, 13));
        for (int sale = 0; sale < 12; sale++) {
            x.sell(0, 0, 0, 1);
        }
        Check.fails("thing, and there are 12", INDEX, x, () -> x.sell(1, 0, 0, 1));
        Check.fails("buyer, and there are 12", INDEX, x, () -> x.sell(0, 3, 0, 1));
        Check.fails("markup, and there are 12", ARGUMENT, x, () -> x.sell(0, 0, 100, 1));
        Check.fails("parts, and there are 12", ARGUMENT, x, () -> x.sell(0, 0, 0, 0));
        Check.fails("all three", INDEX, x, () -> x.sell(1, 3, 100, 0));
    }

    private static void sellOfLeased() {
        RibafreeHouse x = Check.withHeld(100);
        x.lease(0, 0, 0, 0);
        Check.fails("buyer, and it is leased", INDEX, x, () -> x.sell(0, 3, 0, 1));
        Check.fails("markup, and it is leased", ARGUMENT, x, () -> x.sell(0, 0, -1, 1));
        Check.fails("parts, and it is leased", ARGUMENT, x, () -> x.sell(0, 0, 0, 13));
        Check.fails("all three", INDEX, x, () -> x.sell(0, -1, 0, 13));
    }

    private static void lease() {
        RibafreeHouse x = Check.withHeld(100);
        Check.fails("thing and floor", INDEX, x, () -> x.lease(1, 0, -1, 0));
        Check.fails("thing and ceiling", INDEX, x, () -> x.lease(-1, 0, 0, 100));
        Check.fails("person, and they cross", INDEX, x, () -> x.lease(0, 3, 2, 1));
        x.lease(0, 0, 0, 0);
        Check.fails("person, and it is leased", INDEX, x, () -> x.lease(0, 3, 0, 0));
        Check.fails("floor, and it is leased", ARGUMENT, x, () -> x.lease(0, 0, 100, 0));
        Check.fails("they cross, and it is leased", ARGUMENT, x, () -> x.lease(0, 0, 1, 0));
        Check.fails("all three", INDEX, x, () -> x.lease(0, -1, 1, 0));
        x.end(0, false);
        for (int lease = 1; lease < 8; lease++) {
            x.lease(0, 0, 0, 0);
            x.end(lease, false);
        }
        Check.fails("thing, and there are 8", INDEX, x, () -> x.lease(1, 0, 0, 0));
        Check.fails("they cross, and there are 8", ARGUMENT, x, () -> x.lease(0, 0, 9, 8));
    }

    private static void leaseOfAnother() {
        RibafreeHouse x = Check.withThings(100, 100);
        Check.fails("person, not owned", INDEX, x, () -> x.lease(0, 3, 0, 0));
        Check.fails("ceiling, not owned", ARGUMENT, x, () -> x.lease(0, 0, 0, 100));
        x.buy(0);
        Check.fails("person, not held", INDEX, x, () -> x.lease(0, 3, 0, 0));
        Check.fails("ceiling, not held", ARGUMENT, x, () -> x.lease(0, 0, 0, -1));
        x.take(0);
        x.ruin(0);
        Check.fails("person, ruined", INDEX, x, () -> x.lease(0, 3, 0, 0));
        Check.fails("ceiling, ruined", ARGUMENT, x, () -> x.lease(0, 0, 0, 100));
    }

    private static void join() {
        RibafreeHouse x = Check.withPeople(10, 10);
        x.venture();
        Check.fails("venture and capital", INDEX, x, () -> x.join(1, 0, 0, 0));
        Check.fails("venture and share", INDEX, x, () -> x.join(-1, 0, 1, 101));
        Check.fails("person and capital", INDEX, x, () -> x.join(0, 2, 1000, 0));
        Check.fails("person and share", INDEX, x, () -> x.join(0, -2, 1, -1));
        Check.fails("share, and less cash", ARGUMENT, x, () -> x.join(0, 0, 11, 101));
        Check.fails("capital, and less cash", ARGUMENT, x, () -> x.join(0, 0, 1000, 0));
        x.join(0, 0, 5, 60);
        Check.fails("person, and above 100", INDEX, x, () -> x.join(0, 2, 1, 41));
        Check.fails("capital, and above 100", ARGUMENT, x, () -> x.join(0, 1, 0, 41));
        Check.fails("share, and it is one", ARGUMENT, x, () -> x.join(0, 0, 1, 101));
        Check.fails("all three", INDEX, x, () -> x.join(0, 2, 0, 41));
    }

    private static void result() {
        RibafreeHouse x = Check.withPeople(10);
        x.venture();
        Check.fails("venture and result", INDEX, x, () -> x.result(1, 1000, -2));
        Check.fails("careless and result", INDEX, x, () -> x.result(0, -1000, 1));
        Check.fails("careless and result", INDEX, x, () -> x.result(0, 1000, -3));
        Check.fails("venture, and no partner", INDEX, x, () -> x.result(-1, 0, 0));
        Check.fails("result, and no partner", ARGUMENT, x, () -> x.result(0, 1000, 0));
        Check.fails("result, and no partner", ARGUMENT, x, () -> x.result(0, -1000, -1));
        Check.fails("all three", INDEX, x, () -> x.result(1, 1000, 0));
    }

    private static void buyOut() {
        RibafreeHouse x = Check.withPeople(10, 10);
        x.venture();
        Check.fails("venture, and the same", INDEX, x, () -> x.buyOut(1, 0, 0, 1));
        Check.fails("from and to, and the same", INDEX, x, () -> x.buyOut(0, 2, 2, 1));
        Check.fails("from and capital", INDEX, x, () -> x.buyOut(0, -2, 0, 0));
        Check.fails("to and capital", INDEX, x, () -> x.buyOut(0, 0, 2, 1000));
        Check.fails("venture, and no partner", INDEX, x, () -> x.buyOut(-1, 0, 1, 1));
        Check.fails("the same, and no partner", ARGUMENT, x, () -> x.buyOut(0, 0, 0, 1));
        Check.fails("capital, and no partner", ARGUMENT, x, () -> x.buyOut(0, 0, 1, 0));
        x.join(0, 0, 5, 0);
        x.join(0, 1, 5, 0);
        Check.fails("capital, and less of it", ARGUMENT, x, () -> x.buyOut(0, 0, 1, 1000));
        Check.fails("the same, and less of it", ARGUMENT, x, () -> x.buyOut(0, 0, 0, 6));
        Check.fails("all three", INDEX, x, () -> x.buyOut(1, 0, 0, 6));
    }

    private static void deposit() {
        RibafreeHouse x = Check.withPeople(10);
        Check.fails("person and amount", INDEX, x, () -> x.deposit(1, 0));
        Check.fails("person and amount", INDEX, x, () -> x.deposit(-1, 10000));
        Check.fails("amount, and less cash", ARGUMENT, x, () -> x.deposit(0, 10000));
        Check.fails("amount, and less deposit", ARGUMENT, x, () -> x.deposit(0, -10000));
    }

    private static void firm() {
        RibafreeHouse x = new RibafreeHouse();
        for (int firm = 0; firm < 10; firm++) {
            x.firm(1, 0, 0, 0, 1, 0);
        }
        Check.fails("assets, and 10", ARGUMENT, x, () -> x.firm(0, 0, 0, 0, 1, 0));
        Check.fails("debt, and 10", ARGUMENT, x, () -> x.firm(1, -1, 0, 0, 1, 0));
        Check.fails("liquid, and 10", ARGUMENT, x, () -> x.firm(1, 0, 1000, 0, 1, 0));
        Check.fails("doubt, and 10", ARGUMENT, x, () -> x.firm(1, 0, 0, -1, 1, 0));
        Check.fails("price, and 10", ARGUMENT, x, () -> x.firm(1, 0, 0, 0, 100, 0));
        Check.fails("gain, and 10", ARGUMENT, x, () -> x.firm(1, 0, 0, 0, 1, 100));
    }

    private static void invest() {
        RibafreeHouse x = new RibafreeHouse();
        x.firm(1, 999, 0, 0, 1, 0);
        Check.fails("not there, and not clean", ARGUMENT, x, () -> x.invest(3));
        Check.fails("below 0, and not clean", ARGUMENT, x, () -> x.invest(-1));
    }

    private static void dividend() {
        RibafreeHouse x = new RibafreeHouse();
        x.firm(1, 0, 0, 0, 1, 0);
        Check.fails("firm and dividend", INDEX, x, () -> x.dividend(1, 1000));
        Check.fails("firm and dividend", INDEX, x, () -> x.dividend(-1, -1));
        Check.fails("dividend, not held", ARGUMENT, x, () -> x.dividend(0, -1));
        Check.fails("dividend, not held", ARGUMENT, x, () -> x.dividend(0, 1000));
    }

    private static void pass() {
        RibafreeHouse x = new RibafreeHouse();
        Check.passTo(x, 4000);
        Check.fails("401 days, and above 4000", ARGUMENT, x, () -> x.pass(401));
        Check.fails("no days on the day 4000", ARGUMENT, x, () -> x.pass(0));
        int most = Integer.MAX_VALUE;
        Check.fails("so many that they wrap around", ARGUMENT, x, () -> x.pass(most));
    }

    private static void questions() {
        RibafreeHouse x = new RibafreeHouse();
        Check.fails("ofPerson", INDEX, x, () -> x.ofPerson(0, 8));
        Check.fails("ofThing", INDEX, x, () -> x.ofThing(0, -1));
        Check.fails("ofSale", INDEX, x, () -> x.ofSale(0, 10));
        Check.fails("ofLease", INDEX, x, () -> x.ofLease(0, 6));
        Check.fails("ofVenture", INDEX, x, () -> x.ofVenture(0, -1, 3));
        Check.fails("ofFirm", INDEX, x, () -> x.ofFirm(0, 5));
        Check.fails("allowed", INDEX, x, () -> x.allowed(5, 1));
        Check.fails("allowed", INDEX, x, () -> x.allowed(-1, -1));
        x.venture();
        Check.fails("ofVenture", INDEX, x, () -> x.ofVenture(0, 0, 3));
    }

    private static void wouldBe() {
        RibafreeHouse x = new RibafreeHouse();
        Check.fails("wouldShare", INDEX, x, () -> x.wouldShare(10000, 0));
        Check.fails("wouldShare", INDEX, x, () -> x.wouldShare(-1, -1));
    }
}
