/** Promises 5, 6, 7, 24 and 32: buy, take, ruin, ofThing, pillars. */
public final class ThingsTest {
    public static void main(String[] args) {
        buying();
        wrongBuying();
        taking();
        ruining();
        asking();
        pillars();
        Check.end();
    }

    private static void buying() {
        RibafreeHouse x = Check.withPeople(10, 20);
        x.thing(300, -1);
        x.thing(70, 1);
        Check.is("buy(0)", x.buy(0), 300);
        Check.is("CASH of the house", x.house(1), 9700);
        Check.is("CASH of all", x.house(13), 30);
        int[] bought = {300, 8, 0, 0, 300, 9, -1};
        for (int what = 0; what <= 6; what++) {
            Check.is("ofThing(0, " + what + ")", x.ofThing(0, what), bought[what]);
        }
        Check.is("buy(1)", x.buy(1), 70);
        Check.is("CASH of the house", x.house(1), 9630);
        Check.is("CASH of 1", x.ofPerson(1, 0), 90);
        Check.is("things of 1", x.ofPerson(1, 1), 0);
        Check.is("things of the house", x.house(12), 2);
        Check.is("seller", x.ofThing(1, 5), 1);
        x.sell(1, 0, 10, 1);
        Check.is("COST of a sold thing", x.ofThing(1, 4), 70);
        Check.is("buy(1) again", x.buy(1), 70);
        Check.is("seller", x.ofThing(1, 5), 0);
        Check.is("CASH of 0", x.ofPerson(0, 0), 80);
    }

    private static void wrongBuying() {
        RibafreeHouse x = Check.withPeople(10);
        Check.fails("buy", Check.INDEX, x, () -> x.buy(0));
        x.thing(999, -1);
        x.thing(5, 0);
        Check.fails("buy", Check.INDEX, x, () -> x.buy(-1));
        Check.fails("buy", Check.INDEX, x, () -> x.buy(2));
        x.buy(0);
        Check.fails("buy", Check.STATE, x, () -> x.buy(0));
        x.take(0);
        x.lease(0, 0, 0, 0);
        Check.fails("buy of a leased one", Check.STATE, x, () -> x.buy(0));
        x.ruin(1);
        Check.fails("buy of a ruined one", Check.STATE, x, () -> x.buy(1));
    }

    private static void taking() {
        RibafreeHouse x = Check.withPeople(10);
        x.thing(3, -1);
        x.thing(4, 0);
        Check.fails("take", Check.INDEX, x, () -> x.take(-1));
        Check.fails("take", Check.INDEX, x, () -> x.take(2));
        Check.fails("take from the market", Check.STATE, x, () -> x.take(0));
        Check.fails("take from one of people", Check.STATE, x, () -> x.take(1));
        x.buy(0);
        x.buy(1);
        Check.is("take(1)", x.take(1), 1);
        Check.is("held", x.ofThing(1, 2), 1);
        Check.is("not held", x.ofThing(0, 2), 0);
        Check.fails("take again", Check.STATE, x, () -> x.take(1));
        x.ruin(0);
        Check.is("take of a ruined one", x.take(0), 2);
        x.sell(1, 0, 0, 1);
        Check.is("still a void sale's thing", x.ofThing(1, 1), 8);
    }

    private static void ruining() {
        RibafreeHouse x = Check.withPeople(10, 10);
        x.thing(120, 0);
        x.thing(50, -1);
        Check.fails("ruin", Check.INDEX, x, () -> x.ruin(-1));
        Check.fails("ruin", Check.INDEX, x, () -> x.ruin(2));
        Check.is("ruin(0)", x.ruin(0), 120);
        Check.is("ruined", x.ofThing(0, 3), 1);
        Check.is("its owner stays", x.ofThing(0, 1), 0);
        Check.is("its owner holds it", x.ofThing(0, 2), 1);
        Check.fails("ruin again", Check.STATE, x, () -> x.ruin(0));
        x.buy(1);
        x.take(1);
        x.lease(1, 0, 10, 10);
        Check.is("leased", x.ofThing(1, 6), 0);
        Check.is("ruin(1)", x.ruin(1), 50);
        Check.is("no lease", x.ofThing(1, 6), -1);
        Check.is("the lease ended", x.ofLease(0, 2), 1);
        Check.is("leases that did not end", x.house(9), 0);
        Check.is("the house bears it", x.ofThing(1, 1), 8);
        x.pass(30);
        Check.is("no rent", x.ofLease(0, 3), 0);
        Check.is("CASH of 0", x.ofPerson(0, 0), 10);
    }

    private static void asking() {
        RibafreeHouse x = Check.withPeople(10);
        x.thing(3, -1);
        Check.fails("ofThing", Check.INDEX, x, () -> x.ofThing(-1, 0));
        Check.fails("ofThing", Check.INDEX, x, () -> x.ofThing(1, 7));
        Check.fails("ofThing", Check.ARGUMENT, x, () -> x.ofThing(0, -1));
        Check.fails("ofThing", Check.ARGUMENT, x, () -> x.ofThing(0, 7));
    }

    private static void pillars() {
        RibafreeHouse x = Check.withPeople(10, 20);
        x.thing(100, 0);
        Check.fails("pillars", Check.INDEX, x, () -> x.pillars(1, 0));
        Check.fails("pillars", Check.INDEX, x, () -> x.pillars(-1, 0));
        Check.fails("pillars", Check.INDEX, x, () -> x.pillars(0, 2));
        Check.fails("pillars", Check.INDEX, x, () -> x.pillars(0, -1));
        Check.is("not owned", x.pillars(0, 0), 1);
        x.buy(0);
        Check.is("bought", x.pillars(0, 1), 0);
        Check.is("from the buyer", x.pillars(0, 0), 8);
        Check.forbid(x, 0);
        Check.is("not held", x.pillars(0, 1), 2);
        Check.is("not held, from the buyer", x.pillars(0, 0), 10);
        x.take(0);
        Check.is("held", x.pillars(0, 1), 0);
        x.ruin(0);
        Check.is("ruined", x.pillars(0, 1), 4);
        Check.is("ruined, from the buyer", x.pillars(0, 0), 12);
        x.thing(10, 1);
        x.buy(1);
        x.take(1);
        x.sell(1, 0, 0, 1);
        x.ruin(1);
        Check.is("sold, ruined, from the buyer", x.pillars(1, 1), 13);
        x.thing(10, -1);
        Check.is("of the market", x.pillars(2, 1), 1);
        x.buy(2);
        x.take(2);
        x.lease(2, 1, 0, 0);
        Check.is("leased", x.pillars(2, 1), 0);
    }
}
