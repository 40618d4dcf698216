/** Section 3, sentence by sentence: BENCHMARK, RENTS and their DAYS, and how a LEASE ENDS. */
public final class LeasesEdgesTest {
    public static void main(String[] args) {
        benchmarkAtFirst();
        ownedAndHeld();
        notToTheSeller();
        sellerByQuestion();
        rentOnThirtiethDay();
        rentOfLaterLease();
        rentsInOnePass();
        rateBetween();
        rentRoundedDown();
        benchmarkThen();
        rentOfNothing();
        rentBelowNothing();
        leaseByLease();
        endedBeforeRent();
        endedOnDayOfRent();
        endedByRuin();
        soldWhileLeased();
        given();
        notGiven();
        asked();
        Check.end();
    }

    /** A thing of that WORTH, leased to person 0 on the DAY 0. */
    private static RibafreeHouse lease(int worth, int floor, int ceiling) {
        RibafreeHouse x = Check.withHeld(worth);
        Check.is("lease", x.lease(0, 0, floor, ceiling), 0);
        return x;
    }

    // "BENCHMARK (0 to 99, thousandths; 10 at first)."
    private static void benchmarkAtFirst() {
        RibafreeHouse x = lease(999, 0, 99);
        Check.is("BENCHMARK", x.house(5), 10);
        x.pass(30);
        Check.is("RENT of the first one", x.ofLease(0, 4), 9);
        Check.is("that before", x.benchmark(99), 10);
        Check.is("that before", x.benchmark(0), 99);
        Check.is("BENCHMARK", x.house(5), 0);
    }

    // "Of a thing that the HOUSE owns and holds."
    private static void ownedAndHeld() {
        RibafreeHouse x = Check.withThings(10);
        Check.fails("not owned", Check.STATE, x, () -> x.lease(0, 0, 0, 0));
        x.buy(0);
        Check.fails("not held", Check.STATE, x, () -> x.lease(0, 0, 0, 0));
        x.take(0);
        Check.is("owned and held", x.lease(0, 0, 0, 0), 0);
        Check.is("owned still", x.ofThing(0, 1), 8);
        Check.is("held still", x.ofThing(0, 2), 1);
        Check.is("things of the house", x.house(12), 1);
        Check.is("things of 0", x.ofPerson(0, 1), 0);
    }

    // "Not to the one from whom the HOUSE bought it last, unless QUESTION 3 is ALLOWED."
    private static void notToTheSeller() {
        RibafreeHouse x = Check.withPeople(100, 100);
        x.thing(10, 0);
        x.buy(0);
        x.sell(0, 1, 0, 1);
        x.buy(0);
        x.take(0);
        Check.forbid(x, 3);
        Check.fails("bought last from 1", Check.STATE, x, () -> x.lease(0, 1, 0, 0));
        Check.is("bought from 0 before", x.lease(0, 0, 0, 0), 0);
        RibafreeHouse other = Check.withHeld(10);
        Check.forbid(other, 3);
        Check.is("bought from the market", other.lease(0, 0, 0, 0), 0);
        RibafreeHouse free = Check.withPeople(100);
        free.thing(10, 0);
        free.buy(0);
        free.take(0);
        Check.is("allowed at first", free.lease(0, 0, 0, 0), 0);
    }

    private static void sellerByQuestion() {
        for (int question = 0; question < 5; question++) {
            RibafreeHouse x = Check.withPeople(100);
            x.thing(10, 0);
            x.buy(0);
            x.take(0);
            Check.forbid(x, question);
            if (question == 3) {
                Check.fails("two are for it", Check.STATE, x, () -> x.lease(0, 0, 0, 0));
                x.hold(0, 3, true);
            }
            Check.is("lease", x.lease(0, 0, 99, 99), 0);
            x.hold(0, question, false);
            x.pass(60);
            Check.is("it goes on all the same", x.ofLease(0, 3), 2);
        }
    }

    // "RENT is due as the 30th DAY behind its beginning begins, and each 30 DAYS behind that."
    private static void rentOnThirtiethDay() {
        RibafreeHouse x = lease(100, 10, 10);
        for (int rent = 0; rent < 13; rent++) {
            Check.is("the next one", x.ofLease(0, 5), 30 * rent + 30);
            x.pass(29);
            Check.is("RENTS", x.ofLease(0, 3), rent);
            Check.is("CASH of 0", x.ofPerson(0, 0), paidBefore(30 * rent + 29, rent));
            x.pass(1);
            Check.is("RENTS", x.ofLease(0, 3), rent + 1);
            Check.is("together", x.ofLease(0, 4), rent + 1);
        }
    }

    // On the DAY 354 each gives ALMS: then 11 RENTS were paid.
    private static int paidBefore(int day, int rents) {
        return 5000 - rents - (day >= 354 ? (5000 - 11) / 40 : 0);
    }

    private static void rentOfLaterLease() {
        RibafreeHouse x = Check.withHeld(100, 100);
        x.pass(1);
        x.lease(0, 0, 10, 10);
        x.pass(29);
        Check.is("the 29th day", x.ofLease(0, 3), 0);
        x.lease(1, 1, 10, 10);
        x.pass(1);
        Check.is("the 30th day", x.ofLease(0, 3), 1);
        Check.is("the 1st day", x.ofLease(1, 3), 0);
        Check.is("the next one", x.ofLease(0, 5), 61);
        Check.is("the next one", x.ofLease(1, 5), 60);
        x.pass(29);
        Check.is("the 59th day", x.ofLease(0, 3), 1);
        Check.is("the 30th day", x.ofLease(1, 3), 1);
    }

    private static void rentsInOnePass() {
        RibafreeHouse x = lease(100, 99, 99);
        x.pass(389);
        Check.is("RENTS", x.ofLease(0, 3), 12);
        Check.is("together", x.ofLease(0, 4), 12 * 9);
        Check.is("CASH of the house", x.house(1), 9900 + 12 * 9);
        Check.is("the next one", x.ofLease(0, 5), 390);
        x.pass(1);
        Check.is("RENTS", x.ofLease(0, 3), 13);
    }

    // "BENCHMARK then, FLOOR at least, CEILING at most."
    private static void rateBetween() {
        int[][] rows = {{0, 20, 40, 20}, {19, 20, 40, 20}, {20, 20, 40, 20}, {21, 20, 40, 21},
            {39, 20, 40, 39}, {40, 20, 40, 40}, {41, 20, 40, 40}, {99, 20, 40, 40},
            {5, 0, 0, 0}, {5, 99, 99, 99}, {0, 0, 99, 0}, {99, 0, 99, 99}, {50, 50, 50, 50}};
        for (int[] row : rows) {
            RibafreeHouse x = lease(999, row[1], row[2]);
            x.benchmark(row[0]);
            x.pass(30);
            Check.is("RENT by " + row[0], x.ofLease(0, 4), 999 * row[3] / 1000);
            Check.is("CASH of 0", x.ofPerson(0, 0), 5000 - 999 * row[3] / 1000);
        }
    }

    private static void rentRoundedDown() {
        int[][] rows = {{100, 9, 0}, {100, 10, 1}, {100, 19, 1}, {999, 1, 0}, {999, 99, 98},
            {500, 2, 1}, {499, 2, 0}, {1, 99, 0}, {11, 99, 1}, {10, 99, 0}};
        for (int[] row : rows) {
            RibafreeHouse x = lease(row[0], row[1], row[1]);
            x.pass(30);
            Check.is("RENT of " + row[0] + " by " + row[1], x.ofLease(0, 4), row[2]);
        }
    }

    // "BENCHMARK then": that of the DAY on which the RENT is due, not that of the beginning.
    private static void benchmarkThen() {
        RibafreeHouse x = lease(500, 0, 99);
        x.benchmark(2);
        x.pass(29);
        x.benchmark(20);
        x.pass(1);
        Check.is("together", x.ofLease(0, 4), 10);
        x.benchmark(40);
        x.pass(10);
        x.benchmark(4);
        x.pass(20);
        Check.is("together", x.ofLease(0, 4), 12);
        Check.is("RENTS", x.ofLease(0, 3), 2);
    }

    private static void rentOfNothing() {
        RibafreeHouse x = lease(1, 0, 0);
        x.pass(60);
        Check.is("RENTS", x.ofLease(0, 3), 2);
        Check.is("together", x.ofLease(0, 4), 0);
        Check.is("the next one", x.ofLease(0, 5), 90);
        Check.is("end", x.end(0, false), 2);
    }

    private static void rentBelowNothing() {
        RibafreeHouse x = Check.withPeople(5);
        x.thing(999, -1);
        x.buy(0);
        x.take(0);
        x.lease(0, 0, 99, 99);
        x.pass(60);
        Check.is("CASH of 0", x.ofPerson(0, 0), 5 - 2 * 98);
        Check.is("CASH of the house", x.house(1), 10000 - 999 + 2 * 98);
    }

    private static void leaseByLease() {
        RibafreeHouse x = Check.withHeld(100, 200, 300);
        x.lease(2, 0, 10, 10);
        x.lease(0, 1, 10, 10);
        x.lease(1, 0, 20, 20);
        Check.is("LEASES of 0", x.ofPerson(0, 6), 2);
        Check.is("LEASES of 1", x.ofPerson(1, 6), 1);
        Check.is("LEASES of 2", x.ofPerson(2, 6), 0);
        x.pass(30);
        Check.is("RENT of 300", x.ofLease(0, 4), 3);
        Check.is("RENT of 100", x.ofLease(1, 4), 1);
        Check.is("RENT of 200", x.ofLease(2, 4), 4);
        Check.is("CASH of 0", x.ofPerson(0, 0), 5000 - 7);
        Check.is("CASH of 1", x.ofPerson(1, 0), 5000 - 1);
        Check.is("CASH of 2", x.ofPerson(2, 0), 5000);
    }

    private static void endedBeforeRent() {
        RibafreeHouse x = lease(100, 99, 99);
        x.pass(29);
        Check.is("end", x.end(0, false), 0);
        x.pass(1);
        Check.is("no RENT", x.ofLease(0, 3), 0);
        Check.is("CASH of 0", x.ofPerson(0, 0), 5000);
    }

    private static void endedOnDayOfRent() {
        RibafreeHouse x = lease(100, 99, 99);
        x.pass(30);
        Check.is("end", x.end(0, false), 1);
        x.pass(30);
        int[] due = {0, 0, 1, 1, 9, -1};
        for (int what = 0; what < due.length; what++) {
            Check.is("ofLease(0, " + what + ")", x.ofLease(0, what), due[what]);
        }
        Check.is("CASH of 0", x.ofPerson(0, 0), 4991);
    }

    // "It ENDS as the thing is RUINED (the HOUSE bears that)."
    private static void endedByRuin() {
        RibafreeHouse x = Check.withHeld(100, 100);
        x.lease(0, 0, 99, 99);
        x.lease(1, 0, 99, 99);
        x.pass(30);
        Check.is("ruin", x.ruin(0), 100);
        Check.is("ENDED", x.ofLease(0, 2), 1);
        Check.is("the next one", x.ofLease(0, 5), -1);
        Check.is("another did not end", x.ofLease(1, 2), 0);
        Check.is("its thing", x.ofThing(1, 6), 1);
        Check.is("no LEASE", x.ofThing(0, 6), -1);
        Check.is("OWNER", x.ofThing(0, 1), 8);
        Check.is("held", x.ofThing(0, 2), 1);
        Check.is("LEASES of 0", x.ofPerson(0, 6), 1);
        Check.is("LEASES that did not END", x.house(9), 1);
        x.pass(30);
        Check.is("no RENT", x.ofLease(0, 3), 1);
        Check.is("RENT of another", x.ofLease(1, 3), 2);
        Check.is("CASH of 0", x.ofPerson(0, 0), 5000 - 27);
        Check.is("CASH of the house", x.house(1), 9800 + 27);
        Check.is("isSound()", x.isSound(), true);
    }

    // "A thing that is leased can not be sold."
    private static void soldWhileLeased() {
        RibafreeHouse x = lease(100, 0, 0);
        Check.fails("to the one who leases", Check.STATE, x, () -> x.sell(0, 0, 0, 1));
        Check.fails("to another one", Check.STATE, x, () -> x.sell(0, 1, 0, 1));
        Check.is("SALES", x.house(6), 0);
        Check.is("no PILLAR is missing", x.pillars(0, 1), 0);
        Check.fails("bought", Check.STATE, x, () -> x.buy(0));
        Check.fails("taken", Check.STATE, x, () -> x.take(0));
    }

    // "As it is ended, the thing can be given to the one who leases."
    private static void given() {
        RibafreeHouse x = lease(100, 0, 0);
        Check.is("end", x.end(0, true), 0);
        Check.is("things of 0", x.ofPerson(0, 1), 1);
        Check.is("things of the house", x.house(12), 0);
        Check.is("nothing was paid", x.ofPerson(0, 0), 5000);
        Check.is("CASH of the house", x.house(1), 9900);
        int[] due = {100, 0, 1, 0, 100, 9, -1};
        for (int what = 0; what < due.length; what++) {
            Check.is("ofThing(0, " + what + ")", x.ofThing(0, what), due[what]);
        }
        Check.is("not owned", x.pillars(0, 1), 1);
        Check.is("bought back", x.buy(0), 100);
        Check.is("from 0", x.pillars(0, 0), 8);
        Check.is("not held", x.ofThing(0, 2), 0);
    }

    private static void notGiven() {
        RibafreeHouse x = lease(100, 0, 0);
        Check.is("end", x.end(0, false), 0);
        Check.is("things of 0", x.ofPerson(0, 1), 0);
        Check.is("things of the house", x.house(12), 1);
        Check.is("held", x.ofThing(0, 2), 1);
        Check.is("leased again", x.lease(0, 0, 0, 0), 1);
        x.end(1, false);
        Check.is("sold", x.sell(0, 0, 0, 1), 0);
        Check.is("it is not void", x.ofSale(0, 3), 0);
    }

    private static void asked() {
        RibafreeHouse x = Check.withHeld(10, 20);
        x.pass(400);
        x.lease(1, 2, 0, 99);
        int[] due = {1, 2, 0, 0, 0, 430};
        for (int what = 0; what < due.length; what++) {
            Check.is("ofLease(0, " + what + ")", x.ofLease(0, what), due[what]);
        }
    }
}
