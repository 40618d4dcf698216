/** Promises 19, 20, 21, 22, 28 and 33: firm, invest, dividend, the ALMS of pass, ofFirm, best. */
public final class FirmsTest {
    public static void main(String[] args) {
        screening();
        wrongFirms();
        investing();
        wrongInvesting();
        dividends();
        wrongDividends();
        alms();
        alsoAfterRent();
        bestHolding();
        bestOfEquals();
        bestOfAll();
        Check.end();
    }

    private static boolean isClean(int assets, int debt, int liquid, int doubt) {
        RibafreeHouse x = new RibafreeHouse();
        x.firm(assets, debt, liquid, doubt, 1, 1);
        return x.ofFirm(0, 0) == 1;
    }

    private static void screening() {
        Check.is("debt", isClean(100, 32, 0, 0), true);
        Check.is("debt", isClean(100, 33, 0, 0), false);
        Check.is("liquid", isClean(100, 0, 69, 0), true);
        Check.is("liquid", isClean(100, 0, 70, 0), false);
        Check.is("doubt", isClean(100, 0, 0, 5), true);
        Check.is("doubt", isClean(100, 0, 0, 6), false);
        Check.is("as much as can be", isClean(999, 329, 699, 49), true);
        Check.is("debt", isClean(999, 330, 0, 0), false);
        Check.is("liquid", isClean(999, 0, 700, 0), false);
        Check.is("doubt", isClean(999, 0, 0, 50), false);
        Check.is("all of it", isClean(1, 0, 0, 0), true);
        Check.is("all of it", isClean(1, 999, 999, 999), false);
    }

    private static void wrongFirms() {
        RibafreeHouse x = new RibafreeHouse();
        Check.fails("firm", Check.ARGUMENT, x, () -> x.firm(0, 0, 0, 0, 1, 0));
        Check.fails("firm", Check.ARGUMENT, x, () -> x.firm(1000, 0, 0, 0, 1, 0));
        Check.fails("firm", Check.ARGUMENT, x, () -> x.firm(1, -1, 0, 0, 1, 0));
        Check.fails("firm", Check.ARGUMENT, x, () -> x.firm(1, 1000, 0, 0, 1, 0));
        Check.fails("firm", Check.ARGUMENT, x, () -> x.firm(1, 0, -1, 0, 1, 0));
        Check.fails("firm", Check.ARGUMENT, x, () -> x.firm(1, 0, 1000, 0, 1, 0));
        Check.fails("firm", Check.ARGUMENT, x, () -> x.firm(1, 0, 0, -1, 1, 0));
        Check.fails("firm", Check.ARGUMENT, x, () -> x.firm(1, 0, 0, 1000, 1, 0));
        Check.fails("firm", Check.ARGUMENT, x, () -> x.firm(1, 0, 0, 0, 0, 0));
        Check.fails("firm", Check.ARGUMENT, x, () -> x.firm(1, 0, 0, 0, 100, 0));
        Check.fails("firm", Check.ARGUMENT, x, () -> x.firm(1, 0, 0, 0, 1, -1));
        Check.fails("firm", Check.ARGUMENT, x, () -> x.firm(1, 0, 0, 0, 1, 100));
        for (int firm = 0; firm < 10; firm++) {
            Check.is("firm", x.firm(999, 999, 999, 999, 99, 99), firm);
        }
        Check.fails("firm", Check.STATE, x, () -> x.firm(1, 0, 0, 0, 1, 0));
        Check.fails("firm", Check.ARGUMENT, x, () -> x.firm(0, 0, 0, 0, 1, 0));
    }

    /** Three CLEAN FIRMS with PRICES of 10, 20 and 40, and one that is not. */
    private static RibafreeHouse market() {
        RibafreeHouse x = new RibafreeHouse();
        x.firm(100, 0, 0, 5, 10, 3);
        x.firm(7, 0, 0, 0, 20, 7);
        x.firm(300, 0, 0, 1, 40, 99);
        x.firm(100, 0, 0, 6, 1, 50);
        return x;
    }

    private static void investing() {
        RibafreeHouse x = market();
        Check.is("invest", x.invest(3), 9970);
        Check.is("held", x.house(11), 3);
        Check.is("held", x.ofFirm(0, 1), 1);
        Check.is("not held", x.ofFirm(2, 1), 0);
        Check.is("invest", x.invest(6), 9940);
        Check.is("not held", x.ofFirm(0, 1), 0);
        Check.is("held", x.ofFirm(2, 1), 1);
        Check.is("invest", x.invest(6), 9940);
        Check.is("invest", x.invest(0), 10000);
        int[] due = {1, 0, 0, 40, 99};
        for (int what = 0; what <= 4; what++) {
            Check.is("ofFirm(2, " + what + ")", x.ofFirm(2, what), due[what]);
        }
        Check.is("not clean", x.ofFirm(3, 0), 0);
        Check.fails("ofFirm", Check.INDEX, x, () -> x.ofFirm(-1, 0));
        Check.fails("ofFirm", Check.INDEX, x, () -> x.ofFirm(4, 5));
        Check.fails("ofFirm", Check.ARGUMENT, x, () -> x.ofFirm(0, -1));
        Check.fails("ofFirm", Check.ARGUMENT, x, () -> x.ofFirm(0, 5));
    }

    private static void wrongInvesting() {
        RibafreeHouse x = market();
        x.invest(1);
        Check.fails("invest", Check.ARGUMENT, x, () -> x.invest(-1));
        Check.fails("invest", Check.ARGUMENT, x, () -> x.invest(Integer.MIN_VALUE));
        Check.fails("invest", Check.ARGUMENT, x, () -> x.invest(16));
        Check.fails("invest", Check.ARGUMENT, x, () -> x.invest(24));
        Check.fails("invest", Check.STATE, x, () -> x.invest(8));
        Check.fails("invest", Check.STATE, x, () -> x.invest(15));
        Check.is("invest", x.invest(7), 9930);
    }

    private static void dividends() {
        RibafreeHouse x = market();
        x.invest(7);
        Check.is("dividend", x.dividend(0, 100), 5);
        Check.is("CASH of the house", x.house(1), 9930 + 95);
        Check.is("rounded up", x.dividend(0, 101), 6);
        Check.is("rounded up", x.dividend(0, 1), 1);
        Check.is("all of it", x.ofFirm(0, 2), 12);
        Check.is("of nothing", x.dividend(0, 0), 0);
        Check.is("without doubt", x.dividend(1, 999), 0);
        Check.is("rounded up", x.dividend(2, 299), 1);
        Check.is("rounded up", x.dividend(2, 1), 1);
        Check.is("CHARITY", x.house(2), 14);
        Check.is("CASH of the house", x.house(1), 9930 + 95 + 95 + 0 + 999 + 298);
    }

    private static void wrongDividends() {
        RibafreeHouse x = market();
        x.invest(1);
        Check.fails("dividend", Check.INDEX, x, () -> x.dividend(-1, 0));
        Check.fails("dividend", Check.INDEX, x, () -> x.dividend(4, -1));
        Check.fails("dividend", Check.ARGUMENT, x, () -> x.dividend(0, -1));
        Check.fails("dividend", Check.ARGUMENT, x, () -> x.dividend(1, 1000));
        Check.fails("dividend", Check.STATE, x, () -> x.dividend(1, 0));
        Check.is("dividend", x.dividend(0, 999), 50);
        x.invest(0);
        Check.fails("dividend", Check.STATE, x, () -> x.dividend(0, 0));
        Check.is("what was given stays", x.ofFirm(0, 2), 50);
    }

    private static void alms() {
        RibafreeHouse first = Check.withPeople(80 * 40);
        first.pass(354);
        Check.is("CASH", first.ofPerson(0, 0), 79 * 40 - 40);
        RibafreeHouse x = Check.withPeople(84, 85, 119, 9999);
        x.deposit(3, 4999);
        x.pass(353);
        Check.is("CHARITY", x.house(2), 0);
        x.pass(1);
        Check.is("CHARITY", x.house(2), 2 + 2 + 125);
        Check.is("CASH", x.ofPerson(0, 0), 84);
        Check.is("CASH", x.ofPerson(1, 0), 83);
        Check.is("CASH", x.ofPerson(2, 0), 117);
        Check.is("CASH", x.ofPerson(3, 0), 4875);
        Check.is("CASH of the house", x.house(1), 10000);
        x.pass(354);
        Check.is("CHARITY", x.house(2), 129 + 2 + 121);
        Check.is("CASH", x.ofPerson(1, 0), 83);
    }

    private static void alsoAfterRent() {
        RibafreeHouse x = Check.withPeople(90);
        x.thing(200, -1);
        x.buy(0);
        x.take(0);
        x.pass(324);
        x.lease(0, 0, 30, 30);
        x.pass(30);
        Check.is("the rent came first", x.ofPerson(0, 0), 84);
        Check.is("CHARITY", x.house(2), 0);
    }

    private static void bestHolding() {
        RibafreeHouse x = market();
        Check.fails("best", Check.ARGUMENT, x, () -> x.best(-1, true));
        Check.fails("best", Check.ARGUMENT, x, () -> x.best(1000, false));
        Check.is("best", x.best(0, true), 0);
        Check.is("best", x.best(9, false), 0);
        Check.is("best", x.best(10, true), 1);
        Check.is("best", x.best(29, true), 2);
        Check.is("best", x.best(30, true), 3);
        Check.is("best", x.best(30, false), 10);
        Check.is("best", x.best(59, true), 5);
        Check.is("best", x.best(60, true), 6);
        Check.is("best", x.best(999, true), 7);
        Check.is("best", x.best(999, false), 109);
    }

    private static void bestOfEquals() {
        RibafreeHouse x = new RibafreeHouse();
        x.firm(1, 0, 0, 0, 9, 0);
        x.firm(1, 0, 0, 0, 30, 8);
        x.firm(1, 0, 0, 0, 20, 8);
        x.firm(1, 0, 0, 0, 20, 8);
        x.firm(1, 0, 0, 0, 10, 4);
        x.firm(1, 0, 0, 0, 10, 4);
        Check.is("the least prices, then the smallest set", x.best(30, false), 12);
        Check.is("the least prices, then the smallest set", x.best(30, true), 4 + 16);
        Check.is("the smallest set", x.best(20, true), 4);
        Check.is("no firm without yield", x.best(9, true), 0);
        Check.is("the least prices", x.best(39, true), 4 + 16);
        Check.is("the smallest set", x.best(40, true), 4 + 8);
    }

    private static void bestOfAll() {
        RibafreeHouse x = new RibafreeHouse();
        for (int firm = 0; firm < 10; firm++) {
            x.firm(999, 0, 0, 0, 99, 99);
        }
        Check.is("best", x.best(990, true), 1023);
        Check.is("best", x.best(990, false), 990);
        Check.is("best", x.best(989, true), 511);
        Check.is("invest", x.invest(1023), 10000 - 990);
        Check.is("held", x.house(11), 1023);
        Check.fails("invest", Check.ARGUMENT, x, () -> x.invest(1024));
    }
}
