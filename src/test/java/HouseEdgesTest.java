import java.math.BigInteger;

/** Promises 23, 30, 35 and 36 at their edges: sums of as much as there can be, the digest. */
public final class HouseEdgesTest {
    public static void main(String[] args) {
        thingsOfOne();
        partsOfOne();
        leasesOfOne();
        capitalOfOne();
        cashOfAll();
        reserveOfMost();
        setOfAllFirms();
        digestOfNew();
        digestOfEachPart();
        digestOfBudget();
        digestAskedOften();
        askingChangesNothing();
        objectsApart();
        soundAtItsWorst();
        Check.end();
    }

    private static void thingsOfOne() {
        RibafreeHouse x = Check.withPeople(0, 0);
        for (int thing = 0; thing < 16; thing++) {
            x.thing(999, 1);
        }
        Check.is("things of 1", x.ofPerson(1, 1), 16);
        Check.is("things of 0", x.ofPerson(0, 1), 0);
        for (int thing = 0; thing < 16; thing++) {
            x.buy(thing);
        }
        Check.is("things of 1", x.ofPerson(1, 1), 0);
        Check.is("things of the house", x.house(12), 16);
        Check.is("CASH of 1", x.ofPerson(1, 0), 16 * 999);
        Check.is("CASH of the house", x.house(1), 10000 - 16 * 999);
    }

    private static void partsOfOne() {
        RibafreeHouse x = Check.withPeople(0, 0);
        for (int sale = 0; sale < 12; sale++) {
            x.thing(999, -1);
            x.buy(sale);
            x.sell(sale, 1, 99, 12);
        }
        Check.is("PARTS", x.ofPerson(1, 4), 144);
        Check.is("together", x.ofPerson(1, 5), 12 * 1988);
        Check.is("PARTS of 0", x.ofPerson(0, 4), 0);
        Check.is("SALES", x.house(6), 12);
        Check.is("DONE ones", x.house(8), 0);
        for (int sale = 0; sale < 12; sale++) {
            x.pay(sale);
        }
        Check.is("PARTS", x.ofPerson(1, 4), 132);
        Check.is("together, as if no REBATE had been", x.ofPerson(1, 5), 12 * (1988 - 165));
        Check.is("CASH of 1", x.ofPerson(1, 0), -12 * (165 - 41));
        Check.is("REBATES of one", x.ofSale(11, 9), 41);
    }

    private static void leasesOfOne() {
        RibafreeHouse x = Check.withHeld(10, 10, 10, 10, 10, 10, 10, 10);
        for (int lease = 0; lease < 8; lease++) {
            x.lease(lease, 2, 0, 0);
            Check.is("LEASES of 2", x.ofPerson(2, 6), lease + 1);
        }
        Check.is("LEASES of 0", x.ofPerson(0, 6), 0);
        x.end(3, true);
        x.ruin(4);
        Check.is("LEASES of 2", x.ofPerson(2, 6), 6);
        Check.is("things of 2", x.ofPerson(2, 1), 1);
        Check.is("LEASES that did not END", x.house(9), 6);
        Check.is("things of the house", x.house(12), 7);
    }

    private static void capitalOfOne() {
        RibafreeHouse x = Check.withPeople(9999);
        for (int venture = 0; venture < 6; venture++) {
            x.venture();
            x.join(venture, 0, 999, 0);
            Check.is("CAPITAL in all", x.ofPerson(0, 7), 999 * (venture + 1));
        }
        x.result(5, -999, -2);
        Check.is("CAPITAL in all", x.ofPerson(0, 7), 999 * 5);
        Check.is("CASH", x.ofPerson(0, 0), 9999 - 999 * 6);
    }

    // "CASH of all PEOPLE": also of those who have less than nothing, and not of the HOUSE.
    private static void cashOfAll() {
        RibafreeHouse x = Check.withPeople(9999, 9999, 9999, 9999, 9999, 9999, 9999, 9999);
        Check.is("CASH of all", x.house(13), 8 * 9999);
        x.venture();
        x.join(0, 7, 9, 0);
        for (int time = 0; time < 20; time++) {
            x.result(0, -999, 7);
        }
        Check.is("CASH of 7", x.ofPerson(7, 0), 9990 - 20 * 999);
        Check.is("CASH of all", x.house(13), 8 * 9999 - 9 - 20 * 999);
        x.deposit(0, 9999);
        Check.is("without the POOL", x.house(13), 7 * 9999 - 9 - 20 * 999);
    }

    private static void reserveOfMost() {
        RibafreeHouse x = Check.withPeople(1);
        for (int time = 1; time <= 100; time++) {
            x.share(9999, 0, 0);
        }
        Check.is("RESERVE", x.house(3), 999900);
        Check.is("CHARITY", x.house(2), 0);
        Check.is("CASH of the house", x.house(1), 10000);
    }

    private static void setOfAllFirms() {
        RibafreeHouse x = new RibafreeHouse();
        for (int firm = 0; firm < 10; firm++) {
            x.firm(20, 0, 0, 1, 99, 99);
        }
        Check.is("invest", x.invest(1023), 10000 - 990);
        Check.is("the set", x.house(11), 1023);
        for (int firm = 0; firm < 10; firm++) {
            Check.is("dividend", x.dividend(firm, 999), 50);
        }
        Check.is("CHARITY", x.house(2), 500);
        Check.is("invest", x.invest(512), 9010 + 10 * 949 + 9 * 99);
        Check.is("the set", x.house(11), 512);
    }

    /** The same sum without a bound, cut down to 64 bits at the end. */
    private static long wrapped(int... numbers) {
        BigInteger d = BigInteger.valueOf(7307);
        for (int number : numbers) {
            d = d.multiply(BigInteger.valueOf(31)).add(BigInteger.valueOf(number));
        }
        return d.longValue();
    }

    // "Which wraps around as a 64-bit integer."
    private static void digestOfNew() {
        RibafreeHouse x = new RibafreeHouse();
        long due = wrapped(0, 10000, 0, 0, 0, 10, 0, 0, 0, 0, 0, 0, 0, 0, 100, 20, 1, 1, 1, 1, 1,
            0, 0, 1);
        Check.is("digest", x.digest(), due);
        x.pass(1);
        Check.forbid(x, 3);
        x.benchmark(99);
        long later = wrapped(1, 10000, 0, 0, 0, 99, 0, 0, 0, 0, 0, 0, 0, 0, 100, 20, 1, 1, 1, 0, 1,
            0, 0, 1);
        Check.is("digest", x.digest(), later);
    }

    // One of each kind, with every number written out.
    private static void digestOfEachPart() {
        RibafreeHouse x = Check.withPeople(500);
        x.thing(200, -1);
        x.buy(0);
        x.take(0);
        x.lease(0, 0, 0, 99);
        x.thing(100, 0);
        x.sell(1, 0, 5, 3);
        x.venture();
        x.join(0, 0, 40, 30);
        x.deposit(0, 60);
        x.firm(100, 0, 0, 5, 100 - 1, 7);
        x.pass(30);
        Check.is("digest", x.digest(), wrapped(
            30, 9802, 0, 0, 60, 10, 1, 1, 0, 1, 1, 0, 1, 398, 100, 20,
            398, 1, 60, 1800, 0, 0, 1, 40,
            8, 1, 0, 200, 9, 0,
            0, 1, 0, 0, -1, -1,
            0, 1, 3, 0, -1, 0, 0, 0,
            0, 1, 2, 60,
            40, 30, 0, 0, 0, 0,
            1, 0, 0,
            1, 1, 1, 1, 1,
            7, 1, 1));
    }

    // "best() of 100, YIELDS, then the set."
    private static void digestOfBudget() {
        RibafreeHouse x = new RibafreeHouse();
        x.firm(1, 0, 0, 0, 99, 10);
        x.firm(1, 0, 0, 0, 1, 5);
        x.firm(1, 0, 0, 0, 1, 4);
        Check.is("digest", x.digest(), wrapped(0, 10000, 0, 0, 0, 10, 0, 0, 0, 0, 0, 0, 0, 0, 100,
            20, 1, 0, 0, 1, 0, 0, 1, 0, 0, 1, 1, 1, 1, 1, 15, 3, 1));
    }

    // "An object is used for at most 512 calls": the last one answers as the first one does.
    private static void digestAskedOften() {
        RibafreeHouse x = new RibafreeHouse();
        for (int firm = 0; firm < 10; firm++) {
            x.firm(999, 0, 0, 0, 10, 9);
        }
        long due = x.digest();
        for (int call = 11; call < 511; call++) {
            Check.is("digest", x.digest(), due);
        }
        Check.is("the last call", x.best(100, true), 1023);
    }

    private static void askingChangesNothing() {
        RibafreeHouse x = Check.withHeld(100, 100);
        x.sell(0, 0, 0, 2);
        x.lease(1, 1, 0, 0);
        x.venture();
        x.firm(1, 0, 0, 0, 1, 1);
        x.deposit(0, 5);
        x.pass(1);
        long before = x.digest();
        x.ofPerson(0, 3);
        x.ofThing(0, 5);
        x.ofSale(0, 7);
        x.ofLease(0, 5);
        x.ofVenture(0, -1, 2);
        x.ofFirm(0, 2);
        x.allowed(2, 0);
        x.house(2);
        x.tell(0);
        x.pillars(0, 1);
        x.best(1, true);
        x.wouldShare(9999, 0);
        x.isSound();
        Check.is("digest", x.digest(), before);
    }

    private static void objectsApart() {
        RibafreeHouse x = Check.withHeld(100);
        RibafreeHouse other = new RibafreeHouse();
        long before = other.digest();
        x.hold(0, 0, false);
        x.sell(0, 0, 0, 1);
        x.firm(1, 0, 0, 0, 1, 1);
        x.benchmark(3);
        x.share(100, 3, 3);
        x.pass(5);
        Check.is("digest of another object", other.digest(), before);
        Check.is("hold of another object", other.hold(1, 0, false), 4);
        Check.is("DAY of another object", other.house(0), 0);
    }

    // All that could be unsound, as near as calls can bring it.
    private static void soundAtItsWorst() {
        RibafreeHouse x = Check.withPeople(2, 2);
        x.thing(1, -1);
        x.buy(0);
        x.sell(0, 0, 0, 12);
        x.pass(400);
        for (int part = 0; part < 12; part++) {
            x.pay(0);
            Check.is("FEES are all of CHARITY", x.house(2), x.ofSale(0, 8));
            Check.is("isSound()", x.isSound(), true);
        }
        Check.is("FEES", x.ofSale(0, 8), 12);
        x.venture();
        x.join(0, 1, 2, 100);
        x.result(0, -999, 1);
        x.result(0, -2, -2);
        Check.is("CAPITAL is nothing", x.ofPerson(1, 7), 0);
        Check.is("isSound()", x.isSound(), true);
        x.buy(0);
        x.take(0);
        x.lease(0, 1, 99, 99);
        Check.is("leased", x.isSound(), true);
        x.ruin(0);
        Check.is("ruined", x.isSound(), true);
        x.sell(0, 1, 0, 1);
        Check.is("void", x.isSound(), true);
        Check.is("CASH below 0", x.ofPerson(0, 0) < 0 && x.ofPerson(1, 0) < 0, true);
    }
}
