/** Promises 10, 11, 12, 22 and 26: benchmark, lease, end, the RENTS of pass, ofLease. */
public final class LeasesTest {
    public static void main(String[] args) {
        benchmarks();
        rents();
        ends();
        wrongLeases();
        sellers();
        wrongEnds();
        wrongAsking();
        Check.end();
    }

    private static void asks(RibafreeHouse x, int lease, int... due) {
        for (int what = 0; what < due.length; what++) {
            Check.is("ofLease(" + lease + ", " + what + ")", x.ofLease(lease, what), due[what]);
        }
    }

    /** A house that owns and holds as many things from the MARKET as there are WORTHS. */
    private static RibafreeHouse holding(int... worth) {
        RibafreeHouse x = Check.withPeople(100, 100, 100);
        for (int thing = 0; thing < worth.length; thing++) {
            x.thing(worth[thing], -1);
            x.buy(thing);
            x.take(thing);
        }
        return x;
    }

    private static void benchmarks() {
        RibafreeHouse x = new RibafreeHouse();
        Check.fails("benchmark", Check.ARGUMENT, x, () -> x.benchmark(-1));
        Check.fails("benchmark", Check.ARGUMENT, x, () -> x.benchmark(100));
        Check.is("benchmark(0)", x.benchmark(0), 10);
        Check.is("benchmark(99)", x.benchmark(99), 0);
        Check.is("benchmark(99)", x.benchmark(99), 99);
        Check.is("BENCHMARK", x.house(5), 99);
    }

    private static void rents() {
        RibafreeHouse x = holding(999, 100);
        x.pass(5);
        Check.is("lease", x.lease(0, 1, 4, 50), 0);
        asks(x, 0, 0, 1, 0, 0, 0, 35);
        Check.is("its lease", x.ofThing(0, 6), 0);
        Check.is("leases of 1", x.ofPerson(1, 6), 1);
        x.pass(29);
        asks(x, 0, 0, 1, 0, 0, 0, 35);
        x.pass(1);
        asks(x, 0, 0, 1, 0, 1, 9, 65);
        Check.is("CASH of 1", x.ofPerson(1, 0), 91);
        Check.is("CASH of the house", x.house(1), 10000 - 1099 + 9);
        x.benchmark(3);
        x.pass(30);
        Check.is("floor", x.ofLease(0, 4), 9 + 3);
        x.benchmark(51);
        x.pass(30);
        Check.is("ceiling", x.ofLease(0, 4), 9 + 3 + 49);
        x.benchmark(50);
        Check.is("lease", x.lease(1, 2, 0, 99), 1);
        x.pass(90);
        asks(x, 0, 0, 1, 0, 6, 61 + 147, 215);
        asks(x, 1, 1, 2, 0, 3, 15, 215);
        Check.is("CASH below 0", x.ofPerson(1, 0), 100 - 208);
        Check.is("CASH of 2", x.ofPerson(2, 0), 85);
        Check.is("leases that did not end", x.house(9), 2);
    }

    private static void ends() {
        RibafreeHouse x = holding(200, 100);
        x.lease(0, 0, 0, 99);
        x.lease(1, 1, 0, 99);
        x.pass(60);
        Check.is("end", x.end(0, false), 2);
        asks(x, 0, 0, 0, 1, 2, 4, -1);
        Check.is("owner", x.ofThing(0, 1), 8);
        Check.is("held", x.ofThing(0, 2), 1);
        Check.is("no lease", x.ofThing(0, 6), -1);
        Check.is("leases of 0", x.ofPerson(0, 6), 0);
        Check.is("leases that did not end", x.house(9), 1);
        Check.is("end", x.end(1, true), 2);
        Check.is("given", x.ofThing(1, 1), 1);
        Check.is("held", x.ofThing(1, 2), 1);
        Check.is("no lease", x.ofThing(1, 6), -1);
        Check.is("COST stays", x.ofThing(1, 4), 100);
        x.pass(30);
        Check.is("no rent", x.ofPerson(0, 0), 96);
        Check.is("leased again", x.lease(0, 0, 0, 99), 2);
        Check.is("its lease", x.ofThing(0, 6), 2);
        Check.is("bought back", x.buy(1), 100);
        Check.is("from the one who had it", x.ofThing(1, 5), 1);
    }

    private static void wrongLeases() {
        RibafreeHouse x = holding(5, 5, 5, 5, 5, 5, 5, 5, 5);
        Check.fails("lease", Check.INDEX, x, () -> x.lease(-1, 0, 0, 0));
        Check.fails("lease", Check.INDEX, x, () -> x.lease(9, 0, 0, 0));
        Check.fails("lease", Check.INDEX, x, () -> x.lease(0, 3, 100, 0));
        Check.fails("lease", Check.INDEX, x, () -> x.lease(0, -1, 0, 0));
        Check.fails("lease", Check.ARGUMENT, x, () -> x.lease(0, 0, -1, 0));
        Check.fails("lease", Check.ARGUMENT, x, () -> x.lease(0, 0, 0, 100));
        Check.fails("lease", Check.ARGUMENT, x, () -> x.lease(0, 0, 100, 99));
        Check.fails("lease", Check.ARGUMENT, x, () -> x.lease(0, 0, 0, -1));
        Check.fails("lease", Check.ARGUMENT, x, () -> x.lease(0, 0, 6, 5));
        x.lease(0, 0, 99, 99);
        Check.fails("lease of a leased one", Check.STATE, x, () -> x.lease(0, 1, 0, 0));
        Check.fails("lease of a leased one", Check.ARGUMENT, x, () -> x.lease(0, 1, 6, 5));
        x.ruin(1);
        Check.fails("lease of a ruined one", Check.STATE, x, () -> x.lease(1, 1, 0, 0));
        x.sell(2, 0, 0, 1);
        Check.fails("lease of another's", Check.STATE, x, () -> x.lease(2, 1, 0, 0));
        x.buy(2);
        Check.fails("lease, not held", Check.STATE, x, () -> x.lease(2, 1, 0, 0));
        for (int lease = 1; lease < 8; lease++) {
            int due = lease;
            Check.is("lease", x.lease(3, 1, 0, 0), due);
            x.end(lease, false);
        }
        Check.fails("lease of a ninth", Check.STATE, x, () -> x.lease(3, 1, 0, 0));
    }

    private static void sellers() {
        RibafreeHouse x = Check.withPeople(0, 0);
        x.thing(10, 0);
        x.buy(0);
        x.take(0);
        Check.forbid(x, 3);
        Check.fails("lease to the seller", Check.STATE, x, () -> x.lease(0, 0, 0, 0));
        x.hold(1, 3, true);
        Check.is("lease to the seller, allowed", x.lease(0, 0, 0, 0), 0);
        x.end(0, false);
        x.hold(1, 3, false);
        Check.is("lease to another", x.lease(0, 1, 0, 0), 1);
    }

    private static void wrongEnds() {
        RibafreeHouse x = holding(5);
        Check.fails("end", Check.INDEX, x, () -> x.end(0, false));
        x.lease(0, 0, 0, 0);
        Check.fails("end", Check.INDEX, x, () -> x.end(-1, false));
        Check.fails("end", Check.INDEX, x, () -> x.end(1, true));
        x.end(0, false);
        Check.fails("end again", Check.STATE, x, () -> x.end(0, true));
        x.lease(0, 0, 0, 0);
        x.ruin(0);
        Check.fails("end of a ruined one's", Check.STATE, x, () -> x.end(1, true));
    }

    private static void wrongAsking() {
        RibafreeHouse x = holding(5);
        x.lease(0, 0, 0, 0);
        Check.fails("ofLease", Check.INDEX, x, () -> x.ofLease(-1, 0));
        Check.fails("ofLease", Check.INDEX, x, () -> x.ofLease(1, 6));
        Check.fails("ofLease", Check.ARGUMENT, x, () -> x.ofLease(0, -1));
        Check.fails("ofLease", Check.ARGUMENT, x, () -> x.ofLease(0, 6));
    }
}
