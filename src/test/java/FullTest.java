/** A house in which there is nothing yet, and one in which there is as much as there can be. */
public final class FullTest {
    public static void main(String[] args) {
        nothingToName();
        nothingToHave();
        peopleWithoutThings();
        eightPeople();
        sixteenThings();
        twelveSales();
        twelveVoidSales();
        eightLeases();
        sixVentures();
        tenFirms();
        lastDay();
        Check.end();
    }

    private static void nothingToName() {
        RibafreeHouse x = new RibafreeHouse();
        Check.fails("thing", Check.INDEX, x, () -> x.thing(1, 0));
        Check.fails("buy", Check.INDEX, x, () -> x.buy(0));
        Check.fails("take", Check.INDEX, x, () -> x.take(0));
        Check.fails("ruin", Check.INDEX, x, () -> x.ruin(0));
        Check.fails("sell", Check.INDEX, x, () -> x.sell(0, 0, 0, 1));
        Check.fails("pay", Check.INDEX, x, () -> x.pay(0));
        Check.fails("lease", Check.INDEX, x, () -> x.lease(0, 0, 0, 0));
        Check.fails("end", Check.INDEX, x, () -> x.end(0, false));
        Check.fails("join", Check.INDEX, x, () -> x.join(0, -1, 1, 1));
        Check.fails("result", Check.INDEX, x, () -> x.result(0, 0, -2));
        Check.fails("buyOut", Check.INDEX, x, () -> x.buyOut(0, -1, 0, 1));
        Check.fails("deposit", Check.INDEX, x, () -> x.deposit(0, 1));
        Check.fails("invest", Check.ARGUMENT, x, () -> x.invest(1));
        Check.fails("dividend", Check.INDEX, x, () -> x.dividend(0, 0));
        Check.fails("ofPerson", Check.INDEX, x, () -> x.ofPerson(0, 0));
        Check.fails("ofThing", Check.INDEX, x, () -> x.ofThing(0, 0));
        Check.fails("ofSale", Check.INDEX, x, () -> x.ofSale(0, 0));
        Check.fails("ofLease", Check.INDEX, x, () -> x.ofLease(0, 0));
        Check.fails("ofVenture", Check.INDEX, x, () -> x.ofVenture(0, -1, 0));
        Check.fails("ofFirm", Check.INDEX, x, () -> x.ofFirm(0, 0));
        Check.fails("tell", Check.INDEX, x, () -> x.tell(0));
        Check.fails("pillars", Check.INDEX, x, () -> x.pillars(0, 0));
        Check.fails("wouldShare", Check.INDEX, x, () -> x.wouldShare(0, 0));
    }

    private static void nothingToHave() {
        RibafreeHouse x = new RibafreeHouse();
        Check.is("invest in none", x.invest(0), 10000);
        Check.is("YIELDS of none", x.best(999, false), 0);
        Check.is("the set of none", x.best(999, true), 0);
        Check.is("a sharing among none", x.share(200, 100, 10), 0);
        Check.is("MANAGEMENT", x.house(1), 10020);
        Check.is("RESERVE", x.house(3), 80);
        Check.is("CHARITY", x.house(2), 100);
        Check.is("pass", x.pass(400), 400);
        Check.is("no ALMS", x.house(2), 100);
        Check.is("isSound()", x.isSound(), true);
    }

    private static void peopleWithoutThings() {
        RibafreeHouse x = Check.withPeople(5);
        Check.fails("sell", Check.INDEX, x, () -> x.sell(0, 0, 0, 1));
        Check.fails("lease", Check.INDEX, x, () -> x.lease(0, 0, 0, 0));
        Check.fails("pillars", Check.INDEX, x, () -> x.pillars(0, 0));
        RibafreeHouse other = new RibafreeHouse();
        other.thing(5, -1);
        Check.fails("sell", Check.INDEX, other, () -> other.sell(0, 0, 0, 1));
        Check.fails("lease", Check.INDEX, other, () -> other.lease(0, 0, 0, 0));
        Check.fails("pillars", Check.INDEX, other, () -> other.pillars(0, 0));
        other.buy(0);
        Check.is("take", other.take(0), 1);
    }

    // "PEOPLE: at most 8, numbered from 0."
    private static void eightPeople() {
        RibafreeHouse x = new RibafreeHouse();
        for (int person = 0; person < 8; person++) {
            Check.is("person", x.person(100 + person), person);
            int next = person + 1;
            Check.fails("ofPerson", Check.INDEX, x, () -> x.ofPerson(next, 0));
        }
        Check.fails("a ninth", Check.STATE, x, () -> x.person(0));
        Check.fails("a ninth, again", Check.STATE, x, () -> x.person(9999));
        Check.is("CASH of the last", x.ofPerson(7, 0), 107);
        Check.is("CASH of all", x.house(13), 828);
        x.thing(50, 7);
        Check.is("a thing of the last", x.ofThing(0, 1), 7);
        Check.fails("the HOUSE is no one of them", Check.INDEX, x, () -> x.thing(50, 8));
        Check.fails("the HOUSE is no one of them", Check.INDEX, x, () -> x.deposit(8, 1));
        Check.fails("the HOUSE is no one of them", Check.INDEX, x, () -> x.pillars(0, 8));
        Check.fails("the MARKET is no one of them", Check.INDEX, x, () -> x.pillars(0, 9));
        x.buy(0);
        Check.is("bought from the last", x.ofThing(0, 5), 7);
        Check.is("sold to the last", x.sell(0, 7, 0, 1), 0);
        Check.is("missing", x.ofSale(0, 3), 8);
    }

    // "THINGS: at most 16, numbered from 0."
    private static void sixteenThings() {
        RibafreeHouse x = Check.withPeople(100);
        for (int thing = 0; thing < 16; thing++) {
            int next = thing;
            Check.fails("buy of none yet", Check.INDEX, x, () -> x.buy(next));
            Check.is("thing", x.thing(thing + 1, thing % 2 - 1), thing);
        }
        Check.fails("a 17th", Check.STATE, x, () -> x.thing(1, -1));
        x.ruin(3);
        Check.fails("a ruined one counts too", Check.STATE, x, () -> x.thing(1, -1));
        for (int thing = 0; thing < 16; thing++) {
            Check.is("WORTH", x.ofThing(thing, 0), thing + 1);
            Check.is("OWNER", x.ofThing(thing, 1), thing % 2 == 0 ? 9 : 0);
        }
        Check.is("things of 0", x.ofPerson(0, 1), 8);
        int taken = 0;
        for (int thing = 0; thing < 16; thing++) {
            if (thing != 3) {
                x.buy(thing);
                taken++;
                Check.is("take", x.take(thing), taken);
            }
        }
        Check.is("things of the house", x.house(12), 15);
        Check.fails("buy of no thing", Check.INDEX, x, () -> x.buy(16));
    }

    // "SALES: at most 12": DONE ones count among them.
    private static void twelveSales() {
        RibafreeHouse x = Check.withThings(10);
        for (int sale = 0; sale < 12; sale++) {
            x.buy(0);
            Check.is("sell", x.sell(0, sale % 2, 0, 1), sale);
            Check.is("pay", x.pay(sale), 10);
        }
        x.buy(0);
        Check.fails("a 13th", Check.STATE, x, () -> x.sell(0, 0, 0, 1));
        Check.is("SALES", x.house(6), 12);
        Check.is("DONE ones", x.house(8), 12);
        Check.is("VOID ones", x.house(7), 0);
        Check.is("tell(11)", x.tell(11), "sale 11: 10 in 1, done");
        Check.fails("pay of no sale", Check.INDEX, x, () -> x.pay(12));
    }

    // A VOID SALE "is kept so", so that it counts too.
    private static void twelveVoidSales() {
        RibafreeHouse x = Check.withThings(10);
        for (int sale = 0; sale < 12; sale++) {
            Check.is("sell", x.sell(0, 0, 0, 12), sale);
        }
        x.buy(0);
        Check.is("nothing is missing", x.pillars(0, 0), 0);
        Check.fails("a 13th", Check.STATE, x, () -> x.sell(0, 0, 0, 12));
        Check.is("SALES", x.house(6), 12);
        Check.is("VOID ones", x.house(7), 12);
        Check.is("PARTS to pay", x.ofPerson(0, 4), 0);
    }

    // "LEASES: at most 8": those that ENDED count among them.
    private static void eightLeases() {
        RibafreeHouse x = Check.withHeld(10, 10, 10, 10, 10, 10, 10, 10, 10);
        for (int lease = 0; lease < 8; lease++) {
            Check.is("lease", x.lease(lease, lease % 3, 0, 0), lease);
        }
        Check.fails("a ninth", Check.STATE, x, () -> x.lease(8, 0, 0, 0));
        Check.is("LEASES that did not END", x.house(9), 8);
        for (int lease = 0; lease < 8; lease++) {
            x.end(lease, false);
        }
        Check.is("LEASES that did not END", x.house(9), 0);
        Check.fails("a ninth, as all ended", Check.STATE, x, () -> x.lease(8, 0, 0, 0));
        Check.fails("a ninth, as all ended", Check.STATE, x, () -> x.lease(0, 0, 0, 0));
        Check.fails("end of no lease", Check.INDEX, x, () -> x.end(8, false));
    }

    // "VENTURES: at most 6, numbered from 0."
    private static void sixVentures() {
        RibafreeHouse x = Check.withPeople(6);
        for (int venture = 0; venture < 6; venture++) {
            int next = venture;
            Check.fails("join of none yet", Check.INDEX, x, () -> x.join(next, 0, 1, 0));
            Check.is("venture", x.venture(), venture);
            Check.is("join", x.join(venture, 0, 1, 100), 100);
        }
        Check.fails("a seventh", Check.STATE, x, x::venture);
        Check.fails("a seventh, again", Check.STATE, x, x::venture);
        Check.is("VENTURES", x.house(10), 6);
        Check.is("CAPITAL in all", x.ofPerson(0, 7), 6);
        Check.is("its CASH", x.ofPerson(0, 0), 0);
        for (int venture = 0; venture < 6; venture++) {
            x.result(venture, venture, -2);
            Check.is("profit", x.ofVenture(venture, 0, 2), venture);
        }
        Check.is("its CASH", x.ofPerson(0, 0), 15);
        Check.fails("join of no venture", Check.INDEX, x, () -> x.join(6, 0, 1, 0));
    }

    // "FIRMS: at most 10, numbered from 0."
    private static void tenFirms() {
        RibafreeHouse x = new RibafreeHouse();
        for (int firm = 0; firm < 10; firm++) {
            int set = 1 << firm;
            Check.fails("invest in none yet", Check.ARGUMENT, x, () -> x.invest(set));
            Check.is("firm", x.firm(100, 0, 0, firm % 2 == 0 ? 5 : 6, firm + 1, firm), firm);
        }
        Check.fails("an eleventh", Check.STATE, x, () -> x.firm(100, 0, 0, 0, 1, 1));
        Check.is("YIELDS of the even ones", x.best(999, false), 20);
        Check.is("the even ones but that without YIELD", x.best(999, true), 340);
        Check.is("invest in the even ones", x.invest(341), 10000 - 25);
        for (int firm = 0; firm < 10; firm++) {
            Check.is("CLEAN", x.ofFirm(firm, 0), 1 - firm % 2);
            Check.is("held", x.ofFirm(firm, 1), 1 - firm % 2);
            Check.is("PRICE", x.ofFirm(firm, 3), firm + 1);
            Check.is("YIELD", x.ofFirm(firm, 4), firm);
        }
        Check.fails("invest in all", Check.STATE, x, () -> x.invest(1023));
        Check.fails("invest in no firm", Check.ARGUMENT, x, () -> x.invest(1024));
        Check.is("the last one's", x.dividend(8, 21), 2);
    }

    // "DAY is 0 at first, 4000 at most."
    private static void lastDay() {
        RibafreeHouse x = Check.withHeld(100, 100);
        Check.is("DAY", x.house(0), 0);
        Check.passTo(x, 3600);
        Check.fails("above 4000", Check.ARGUMENT, x, () -> x.pass(401));
        Check.is("pass", x.pass(399), 3999);
        Check.fails("above 4000", Check.STATE, x, () -> x.pass(2));
        Check.fails("above 4000", Check.STATE, x, () -> x.pass(400));
        Check.is("pass", x.pass(1), 4000);
        Check.fails("above 4000", Check.STATE, x, () -> x.pass(1));
        Check.is("allowed", x.allowed(0, 4000), true);
        Check.fails("allowed", Check.ARGUMENT, x, () -> x.allowed(0, 4001));
        Check.is("a lease on the last day", x.lease(0, 0, 0, 0), 0);
        Check.is("its next rent", x.ofLease(0, 5), 4030);
        Check.is("a sale on the last day", x.sell(1, 0, 0, 12), 0);
        Check.is("its next part", x.ofSale(0, 6), 4030);
        Check.is("pay", x.pay(0), 8);
        Check.is("its next part", x.ofSale(0, 6), 4060);
    }
}
