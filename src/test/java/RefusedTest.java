/**
 * Each reason for which a call is refused by the state of the house, alone: a call that is just
 * beyond is refused and changes nothing, one that is just at the edge is let.
 */
public final class RefusedTest {
    public static void main(String[] args) {
        buyOfOwned();
        buyOfRuined();
        buyOfLeased();
        take();
        ruin();
        sellOfLeased();
        pay();
        leaseOfNotOwned();
        leaseOfNotHeld();
        leaseOfRuined();
        leaseOfLeased();
        end();
        joinOfPartner();
        joinByCash();
        joinByCashOfHouse();
        joinByShares();
        result();
        buyOutByPartner();
        buyOutByCapital();
        buyOutByCash();
        buyOutByCashOfHouse();
        depositByCash();
        depositByDeposit();
        depositByMost();
        invest();
        dividend();
        pass();
        Check.end();
    }

    private static void refused(String call, RibafreeHouse x, Runnable act) {
        Check.fails(call, Check.STATE, x, act);
    }

    private static void buyOfOwned() {
        RibafreeHouse x = Check.withThings(10);
        x.buy(0);
        refused("owned, not held", x, () -> x.buy(0));
        x.take(0);
        refused("owned and held", x, () -> x.buy(0));
        x.sell(0, 0, 0, 1);
        Check.is("buy of what was sold", x.buy(0), 10);
    }

    private static void buyOfRuined() {
        RibafreeHouse x = Check.withThings(10);
        x.thing(20, 0);
        x.ruin(0);
        x.ruin(1);
        refused("ruined, of the market", x, () -> x.buy(0));
        refused("ruined, of one of people", x, () -> x.buy(1));
    }

    private static void buyOfLeased() {
        RibafreeHouse x = Check.withHeld(10);
        x.lease(0, 0, 0, 0);
        refused("leased", x, () -> x.buy(0));
        x.end(0, false);
        refused("owned still", x, () -> x.buy(0));
        x.lease(0, 0, 0, 0);
        x.end(1, true);
        Check.is("buy of what was given", x.buy(0), 10);
    }

    private static void take() {
        RibafreeHouse x = Check.withThings(10);
        x.thing(10, 0);
        refused("of the market", x, () -> x.take(0));
        refused("of one of people", x, () -> x.take(1));
        x.buy(0);
        Check.is("take", x.take(0), 1);
        refused("held", x, () -> x.take(0));
        x.sell(0, 0, 0, 1);
        refused("sold", x, () -> x.take(0));
        x.buy(0);
        Check.is("take of what was bought again", x.take(0), 1);
    }

    private static void ruin() {
        RibafreeHouse x = Check.withBought(10);
        x.thing(999, 0);
        Check.is("ruin", x.ruin(0), 10);
        refused("ruined", x, () -> x.ruin(0));
        Check.is("ruin", x.ruin(1), 999);
        refused("ruined", x, () -> x.ruin(1));
    }

    private static void sellOfLeased() {
        RibafreeHouse x = Check.withHeld(10);
        x.lease(0, 0, 0, 0);
        refused("leased, to another", x, () -> x.sell(0, 1, 0, 1));
        refused("leased, to the one who leases", x, () -> x.sell(0, 0, 0, 1));
        x.end(0, false);
        Check.is("sell", x.sell(0, 0, 0, 1), 0);
        Check.is("nothing is missing", x.ofSale(0, 3), 0);
        RibafreeHouse other = Check.withHeld(10);
        other.lease(0, 0, 0, 0);
        other.ruin(0);
        Check.is("its lease ended by ruin", other.sell(0, 0, 0, 1), 0);
        Check.is("missing", other.ofSale(0, 3), 4);
    }

    private static void pay() {
        RibafreeHouse x = Check.withBought(10);
        x.sell(0, 0, 0, 2);
        x.sell(0, 0, 0, 2);
        refused("void", x, () -> x.pay(1));
        x.pay(0);
        Check.is("the last part", x.pay(0), 5);
        refused("done", x, () -> x.pay(0));
        x.pass(400);
        refused("done long ago", x, () -> x.pay(0));
        refused("void for ever", x, () -> x.pay(1));
    }

    private static void leaseOfNotOwned() {
        RibafreeHouse x = Check.withThings(10);
        x.thing(10, 0);
        refused("of the market", x, () -> x.lease(0, 1, 0, 0));
        refused("of another one", x, () -> x.lease(1, 1, 0, 0));
        refused("of that one", x, () -> x.lease(1, 0, 0, 0));
    }

    private static void leaseOfNotHeld() {
        RibafreeHouse x = Check.withBought(10);
        refused("not held", x, () -> x.lease(0, 0, 0, 0));
        x.take(0);
        Check.is("lease", x.lease(0, 0, 0, 0), 0);
    }

    private static void leaseOfRuined() {
        RibafreeHouse x = Check.withHeld(10, 10);
        x.ruin(0);
        refused("ruined", x, () -> x.lease(0, 0, 0, 0));
        x.lease(1, 0, 0, 0);
        x.ruin(1);
        refused("ruined as it was leased", x, () -> x.lease(1, 0, 0, 0));
    }

    private static void leaseOfLeased() {
        RibafreeHouse x = Check.withHeld(10);
        x.lease(0, 0, 0, 0);
        refused("to another one", x, () -> x.lease(0, 1, 0, 0));
        refused("to the same one", x, () -> x.lease(0, 0, 0, 0));
        x.end(0, false);
        Check.is("lease", x.lease(0, 1, 0, 0), 1);
    }

    private static void end() {
        RibafreeHouse x = Check.withHeld(10, 10, 10);
        x.lease(0, 0, 0, 0);
        x.lease(1, 0, 0, 0);
        x.lease(2, 0, 0, 0);
        x.end(0, false);
        refused("ended", x, () -> x.end(0, false));
        refused("ended, a gift", x, () -> x.end(0, true));
        x.end(1, true);
        refused("given", x, () -> x.end(1, true));
        x.ruin(2);
        refused("ruined", x, () -> x.end(2, false));
        refused("ruined, a gift", x, () -> x.end(2, true));
        Check.is("the house owns it", x.ofThing(2, 1), 8);
        x.lease(0, 1, 0, 0);
        refused("ended, and leased again", x, () -> x.end(0, false));
        Check.is("its lease", x.ofThing(0, 6), 3);
    }

    private static void joinOfPartner() {
        RibafreeHouse x = Check.withPeople(100);
        x.venture();
        x.venture();
        x.join(0, 0, 5, 0);
        x.join(0, -1, 5, 0);
        refused("a partner", x, () -> x.join(0, 0, 5, 0));
        refused("the house, a partner", x, () -> x.join(0, -1, 5, 0));
        x.result(0, -10, -2);
        refused("a partner without capital", x, () -> x.join(0, 0, 5, 0));
        refused("the house without capital", x, () -> x.join(0, -1, 5, 0));
        Check.is("join of another venture", x.join(1, 0, 5, 7), 7);
        Check.is("join of another venture", x.join(1, -1, 5, 7), 14);
    }

    private static void joinByCash() {
        RibafreeHouse x = Check.withPeople(20, 0);
        x.venture();
        refused("1 more than its cash", x, () -> x.join(0, 0, 21, 0));
        refused("no cash", x, () -> x.join(0, 1, 1, 0));
        Check.is("all its cash", x.join(0, 0, 20, 0), 0);
        Check.is("CASH", x.ofPerson(0, 0), 0);
        x.result(0, -1, 0);
        x.venture();
        refused("cash below 0", x, () -> x.join(1, 0, 1, 0));
    }

    /** A house whose own CASH is 4. */
    private static RibafreeHouse poor() {
        RibafreeHouse x = Check.withPeople(500);
        for (int thing = 0; thing < 14; thing++) {
            x.thing(714, -1);
            x.buy(thing);
        }
        Check.is("CASH of the house", x.house(1), 4);
        return x;
    }

    private static void joinByCashOfHouse() {
        RibafreeHouse x = poor();
        x.venture();
        refused("1 more than its cash", x, () -> x.join(0, -1, 5, 0));
        Check.is("all its cash", x.join(0, -1, 4, 0), 0);
        Check.is("CASH of the house", x.house(1), 0);
        x.result(0, -1, -1);
        x.venture();
        refused("cash below 0", x, () -> x.join(1, -1, 1, 0));
    }

    private static void joinByShares() {
        RibafreeHouse x = Check.withPeople(100, 100, 100);
        x.venture();
        x.join(0, 0, 1, 60);
        refused("101 together", x, () -> x.join(0, 1, 1, 41));
        refused("160 together", x, () -> x.join(0, -1, 1, 100));
        Check.is("100 together", x.join(0, -1, 1, 40), 100);
        refused("101 together", x, () -> x.join(0, 1, 1, 1));
        Check.is("no share", x.join(0, 1, 1, 0), 100);
        x.venture();
        Check.is("all of another venture", x.join(1, 2, 1, 100), 100);
        refused("101 together", x, () -> x.join(1, -1, 1, 1));
    }

    private static void result() {
        RibafreeHouse x = Check.withPeople(10, 10);
        x.venture();
        x.venture();
        Check.is("nobody is careless", x.result(0, -5, -2), 0);
        refused("no partner", x, () -> x.result(0, -5, 0));
        refused("the house, no partner", x, () -> x.result(0, -5, -1));
        refused("no partner, of a profit", x, () -> x.result(0, 5, 0));
        refused("no partner, of nothing", x, () -> x.result(0, 0, 0));
        x.join(1, 0, 1, 1);
        refused("a partner of another venture", x, () -> x.result(0, -5, 0));
        x.join(0, 0, 1, 1);
        Check.is("a partner", x.result(0, -5, 0), 1);
        refused("another one", x, () -> x.result(0, -5, 1));
        refused("the house", x, () -> x.result(0, -5, -1));
    }

    private static void buyOutByPartner() {
        RibafreeHouse x = Check.withPeople(100, 100, 100);
        x.venture();
        x.venture();
        x.join(0, 0, 10, 0);
        x.join(1, 1, 10, 0);
        x.join(1, -1, 10, 0);
        refused("from no partner", x, () -> x.buyOut(0, 1, 0, 1));
        refused("from the house, no partner", x, () -> x.buyOut(0, -1, 0, 1));
        refused("to no partner", x, () -> x.buyOut(0, 0, 1, 1));
        refused("to the house, no partner", x, () -> x.buyOut(0, 0, -1, 1));
        refused("both are none", x, () -> x.buyOut(0, 1, -1, 1));
        x.join(0, -1, 10, 0);
        Check.is("to the house", x.buyOut(0, 0, -1, 1), 9);
        Check.is("from the house", x.buyOut(0, -1, 0, 11), 0);
    }

    private static void buyOutByCapital() {
        RibafreeHouse x = Check.withPeople(100, 100);
        x.venture();
        x.join(0, 0, 10, 0);
        x.join(0, 1, 20, 0);
        refused("1 more than its capital", x, () -> x.buyOut(0, 0, 1, 11));
        Check.is("all its capital", x.buyOut(0, 0, 1, 10), 0);
        refused("no capital", x, () -> x.buyOut(0, 0, 1, 1));
        Check.is("what was bought", x.buyOut(0, 1, 0, 30), 0);
    }

    private static void buyOutByCash() {
        RibafreeHouse x = Check.withPeople(100, 15);
        x.venture();
        x.join(0, 0, 50, 0);
        x.join(0, 1, 5, 0);
        refused("1 more than its cash", x, () -> x.buyOut(0, 0, 1, 11));
        Check.is("all its cash", x.buyOut(0, 0, 1, 10), 40);
        Check.is("CASH", x.ofPerson(1, 0), 0);
        refused("no cash", x, () -> x.buyOut(0, 0, 1, 1));
        x.result(0, -1, 1);
        refused("cash below 0", x, () -> x.buyOut(0, 0, 1, 1));
    }

    private static void buyOutByCashOfHouse() {
        RibafreeHouse x = poor();
        x.venture();
        x.join(0, 0, 50, 0);
        x.join(0, -1, 1, 0);
        refused("1 more than its cash", x, () -> x.buyOut(0, 0, -1, 4));
        Check.is("all its cash", x.buyOut(0, 0, -1, 3), 47);
        Check.is("CASH of the house", x.house(1), 0);
        refused("no cash", x, () -> x.buyOut(0, 0, -1, 1));
    }

    private static void depositByCash() {
        RibafreeHouse x = Check.withPeople(20, 0);
        refused("1 more than its cash", x, () -> x.deposit(0, 21));
        refused("no cash", x, () -> x.deposit(1, 1));
        Check.is("all its cash", x.deposit(0, 20), 20);
        refused("no cash", x, () -> x.deposit(0, 1));
    }

    private static void depositByDeposit() {
        RibafreeHouse x = Check.withPeople(20, 20);
        refused("no deposit", x, () -> x.deposit(0, -1));
        x.deposit(0, 20);
        refused("1 more than its deposit", x, () -> x.deposit(0, -21));
        refused("the deposit of another", x, () -> x.deposit(1, -1));
        Check.is("all its deposit", x.deposit(0, -20), 0);
        Check.is("CASH", x.ofPerson(0, 0), 20);
    }

    // "DEPOSIT: 99999 at most."
    private static void depositByMost() {
        RibafreeHouse x = Check.withPeople(9999);
        Check.forbid(x, 4);
        x.deposit(0, 9);
        for (int time = 0; time < 10; time++) {
            x.pass(1);
            x.share(time < 9 ? 9999 : 9990, 0, 0);
        }
        Check.is("DEPOSIT", x.ofPerson(0, 2), 99990);
        Check.is("CASH", x.ofPerson(0, 0), 9990);
        refused("1 too many", x, () -> x.deposit(0, 10));
        refused("all its cash", x, () -> x.deposit(0, 9990));
        Check.is("just so many", x.deposit(0, 9), 99999);
        refused("1 too many", x, () -> x.deposit(0, 1));
        Check.is("drawn back", x.deposit(0, -1), 99998);
        Check.is("just so many", x.deposit(0, 1), 99999);
        Check.is("CASH", x.ofPerson(0, 0), 9981);
    }

    private static void invest() {
        RibafreeHouse x = new RibafreeHouse();
        x.firm(100, 32, 0, 0, 10, 1);
        x.firm(100, 33, 0, 0, 10, 1);
        refused("not clean", x, () -> x.invest(2));
        refused("one of both is not clean", x, () -> x.invest(3));
        Check.is("clean", x.invest(1), 9990);
        refused("one of both is not clean", x, () -> x.invest(3));
        Check.is("held", x.house(11), 1);
    }

    private static void dividend() {
        RibafreeHouse x = new RibafreeHouse();
        x.firm(100, 0, 0, 0, 10, 1);
        x.firm(100, 0, 0, 0, 10, 1);
        refused("never held", x, () -> x.dividend(0, 5));
        x.invest(2);
        refused("another one is held", x, () -> x.dividend(0, 5));
        Check.is("held", x.dividend(1, 5), 0);
        x.invest(1);
        refused("held no more", x, () -> x.dividend(1, 5));
        Check.is("held", x.dividend(0, 0), 0);
    }

    private static void pass() {
        RibafreeHouse x = new RibafreeHouse();
        Check.passTo(x, 3700);
        refused("1 too many", x, () -> x.pass(301));
        refused("as many as can be", x, () -> x.pass(400));
        Check.is("just so many", x.pass(300), 4000);
        refused("1 too many", x, () -> x.pass(1));
    }
}
