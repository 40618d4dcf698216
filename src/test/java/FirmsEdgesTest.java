/** Section 6, sentence by sentence: CLEAN FIRMS, DIVIDENDS, the BEST HOLDING, ALMS. */
public final class FirmsEdgesTest {
    public static void main(String[] args) {
        cleanByDebt();
        cleanByLiquid();
        cleanByDoubt();
        cleanByAll();
        pricesPaid();
        cashBelowNothing();
        dividendRoundedUp();
        dividendOfLater();
        bestByYield();
        bestByBudget();
        bestByPrices();
        bestBySmallestSet();
        bestOfClean();
        bestBesideHeld();
        bestByEachSet();
        almsOnTheDay();
        almsRoundedDown();
        almsTwiceInOnePass();
        almsOfNobody();
        almsAfterRents();
        Check.end();
    }

    private static void clean(int assets, int debt, int liquid, int doubt, int due) {
        RibafreeHouse x = new RibafreeHouse();
        x.firm(assets, debt, liquid, doubt, 1, 1);
        String firm = assets + ", " + debt + ", " + liquid + ", " + doubt;
        Check.is("CLEAN: " + firm, x.ofFirm(0, 0), due);
        Check.is("in the best holding", x.best(999, true), due);
        if (due == 1) {
            Check.is("let", x.invest(1), 9999);
        } else {
            Check.fails("not let", Check.STATE, x, () -> x.invest(1));
        }
    }

    // "100 * DEBT is less than 33 * ASSETS."
    private static void cleanByDebt() {
        clean(100, 32, 0, 0, 1);
        clean(100, 33, 0, 0, 0);
        clean(100, 34, 0, 0, 0);
        clean(3, 0, 0, 0, 1);
        clean(3, 1, 0, 0, 0);
        clean(4, 1, 0, 0, 1);
        clean(200, 65, 0, 0, 1);
        clean(200, 66, 0, 0, 0);
        clean(999, 329, 0, 0, 1);
        clean(999, 330, 0, 0, 0);
        clean(999, 999, 0, 0, 0);
        clean(1, 1, 0, 0, 0);
    }

    // "100 * LIQUID less than 70 * ASSETS."
    private static void cleanByLiquid() {
        clean(100, 0, 69, 0, 1);
        clean(100, 0, 70, 0, 0);
        clean(100, 0, 71, 0, 0);
        clean(10, 0, 6, 0, 1);
        clean(10, 0, 7, 0, 0);
        clean(1, 0, 1, 0, 0);
        clean(2, 0, 1, 0, 1);
        clean(999, 0, 699, 0, 1);
        clean(999, 0, 700, 0, 0);
        clean(999, 0, 999, 0, 0);
    }

    // "100 * DOUBT no more than 5 * ASSETS."
    private static void cleanByDoubt() {
        clean(100, 0, 0, 5, 1);
        clean(100, 0, 0, 6, 0);
        clean(20, 0, 0, 1, 1);
        clean(19, 0, 0, 1, 0);
        clean(1, 0, 0, 0, 1);
        clean(1, 0, 0, 1, 0);
        clean(999, 0, 0, 49, 1);
        clean(999, 0, 0, 50, 0);
        clean(980, 0, 0, 49, 1);
        clean(979, 0, 0, 49, 0);
        clean(999, 0, 0, 999, 0);
    }

    private static void cleanByAll() {
        clean(100, 32, 69, 5, 1);
        clean(100, 33, 69, 5, 0);
        clean(100, 32, 70, 5, 0);
        clean(100, 32, 69, 6, 0);
        clean(100, 33, 70, 6, 0);
    }

    private static RibafreeHouse market(int... price) {
        RibafreeHouse x = new RibafreeHouse();
        for (int each : price) {
            x.firm(100, 0, 0, 3, each, 10);
        }
        return x;
    }

    // "It pays PRICES of those that it did not hold, and has PRICES of those that it holds no more."
    private static void pricesPaid() {
        RibafreeHouse x = market(1, 10, 99);
        Check.is("none", x.invest(0), 10000);
        Check.is("all", x.invest(7), 10000 - 110);
        Check.is("the same", x.invest(7), 10000 - 110);
        Check.is("without the last one", x.invest(3), 10000 - 11);
        Check.is("others", x.invest(4), 10000 - 99);
        Check.is("one stays", x.invest(5), 10000 - 100);
        Check.is("held", x.house(11), 5);
        Check.is("none", x.invest(0), 10000);
        Check.is("held", x.house(11), 0);
        Check.is("CHARITY", x.house(2), 0);
    }

    private static void cashBelowNothing() {
        RibafreeHouse x = market(99);
        for (int thing = 0; thing < 11; thing++) {
            x.thing(thing < 10 ? 999 : 10, -1);
            x.buy(thing);
        }
        Check.is("CASH of the house", x.house(1), 0);
        Check.is("invest", x.invest(1), -99);
        Check.is("dividend", x.dividend(0, 0), 0);
        Check.is("CASH of the house", x.house(1), -99);
        Check.is("dividend", x.dividend(0, 1), 1);
        Check.is("all of it went", x.house(1), -99);
        Check.is("invest", x.invest(0), 0);
    }

    // "DIVIDEND * DOUBT / ASSETS of it, rounded up (DIVIDEND at most), goes to CHARITY at once."
    private static void dividendRoundedUp() {
        // ASSETS, DOUBT, DIVIDEND, what goes to CHARITY.
        int[][] rows = {{20, 1, 0, 0}, {20, 1, 1, 1}, {20, 1, 19, 1}, {20, 1, 20, 1},
            {20, 1, 21, 2}, {20, 1, 40, 2}, {20, 1, 41, 3}, {20, 1, 999, 50}, {100, 5, 100, 5},
            {100, 5, 101, 6}, {999, 49, 999, 49}, {999, 49, 998, 49}, {999, 1, 999, 1},
            {999, 1, 1, 1}, {999, 0, 999, 0}, {1, 0, 999, 0}, {999, 2, 500, 2}, {999, 2, 499, 1}};
        for (int[] row : rows) {
            RibafreeHouse x = new RibafreeHouse();
            x.firm(row[0], 0, 0, row[1], 1, 1);
            x.invest(1);
            String call = "dividend of " + row[2] + " by " + row[1] + " of " + row[0];
            Check.is(call, x.dividend(0, row[2]), row[3]);
            Check.is("CHARITY", x.house(2), row[3]);
            Check.is("CASH of the house", x.house(1), 9999 + row[2] - row[3]);
            Check.is("ever", x.ofFirm(0, 2), row[3]);
            x.dividend(0, row[2]);
            Check.is("ever", x.ofFirm(0, 2), 2 * row[3]);
        }
    }

    // "Ever": also as the firm is held no more.
    private static void dividendOfLater() {
        RibafreeHouse x = market(5, 5);
        x.invest(3);
        x.dividend(0, 100);
        x.dividend(1, 200);
        x.invest(0);
        Check.fails("held no more", Check.STATE, x, () -> x.dividend(0, 100));
        Check.is("ever", x.ofFirm(0, 2), 3);
        Check.is("ever", x.ofFirm(1, 2), 6);
        x.invest(1);
        x.dividend(0, 100);
        Check.is("ever", x.ofFirm(0, 2), 6);
        Check.is("CHARITY", x.house(2), 12);
    }

    private static RibafreeHouse shelf(int... pricesAndYields) {
        RibafreeHouse x = new RibafreeHouse();
        for (int at = 0; at < pricesAndYields.length; at += 2) {
            x.firm(1, 0, 0, 0, pricesAndYields[at], pricesAndYields[at + 1]);
        }
        return x;
    }

    private static void best(RibafreeHouse x, int budget, int yields, int set) {
        Check.is("YIELDS for " + budget, x.best(budget, false), yields);
        Check.is("the set for " + budget, x.best(budget, true), set);
    }

    // "The one with the greatest YIELDS together": not the dearest one, nor the best one first.
    private static void bestByYield() {
        RibafreeHouse x = shelf(60, 60, 50, 45, 50, 45);
        best(x, 49, 0, 0);
        best(x, 50, 45, 2);
        best(x, 99, 60, 1);
        best(x, 100, 90, 6);
        best(x, 110, 105, 3);
        best(x, 159, 105, 3);
        best(x, 160, 150, 7);
    }

    // "Whose PRICES are together no more than that."
    private static void bestByBudget() {
        RibafreeHouse x = shelf(1, 1, 99, 99);
        best(x, 0, 0, 0);
        best(x, 1, 1, 1);
        best(x, 98, 1, 1);
        best(x, 99, 99, 2);
        best(x, 100, 100, 3);
        best(x, 999, 100, 3);
        RibafreeHouse most = shelf(99, 99, 99, 99, 99, 99, 99, 99, 99, 99, 99, 99, 99, 99, 99, 99,
            99, 99, 99, 99);
        best(most, 98, 0, 0);
        best(most, 989, 891, 511);
        best(most, 990, 990, 1023);
        best(most, 999, 990, 1023);
    }

    // "Of several that with the least PRICES."
    private static void bestByPrices() {
        RibafreeHouse x = shelf(30, 10, 20, 10, 10, 5, 9, 5);
        best(x, 20, 10, 8 + 4);
        best(x, 29, 15, 8 + 2);
        best(x, 39, 20, 8 + 4 + 2);
        best(x, 999, 30, 15);
        RibafreeHouse nothing = shelf(1, 0, 5, 7, 1, 0);
        best(nothing, 4, 0, 0);
        best(nothing, 999, 7, 2);
    }

    // "Then the smallest set (as a number)."
    private static void bestBySmallestSet() {
        RibafreeHouse x = shelf(10, 5, 10, 5, 10, 5, 20, 10);
        best(x, 10, 5, 1);
        best(x, 20, 10, 3);
        best(x, 30, 15, 7);
        best(x, 40, 20, 8 + 3);
        RibafreeHouse late = shelf(20, 10, 10, 5, 10, 5);
        best(late, 20, 10, 1);
        best(late, 30, 15, 3);
    }

    // "Of all sets of CLEAN FIRMS."
    private static void bestOfClean() {
        RibafreeHouse x = new RibafreeHouse();
        x.firm(100, 33, 0, 0, 1, 99);
        best(x, 999, 0, 0);
        x.firm(100, 0, 0, 0, 50, 1);
        best(x, 999, 1, 2);
        x.firm(100, 0, 70, 0, 1, 99);
        x.firm(100, 0, 0, 6, 1, 99);
        x.firm(100, 0, 0, 5, 60, 2);
        best(x, 59, 1, 2);
        best(x, 60, 2, 16);
        best(x, 110, 3, 18);
    }

    // What the HOUSE holds, and its CASH, is nothing to the BEST HOLDING.
    private static void bestBesideHeld() {
        RibafreeHouse x = shelf(10, 5, 10, 4);
        best(x, 10, 5, 1);
        x.invest(1);
        best(x, 10, 5, 1);
        x.invest(2);
        best(x, 10, 5, 1);
        Check.is("nothing changed", x.house(11), 2);
        Check.is("nothing changed", x.house(1), 9990);
    }

    /** By another way: each set is looked at, the best one so far is kept. */
    private static void bestByEachSet() {
        int[] price = {13, 7, 22, 7, 40, 1, 19, 33, 7, 26};
        int[] gain = {9, 4, 17, 4, 30, 0, 12, 25, 3, 17};
        RibafreeHouse x = new RibafreeHouse();
        for (int firm = 0; firm < 10; firm++) {
            x.firm(100, 0, 0, firm == 4 ? 6 : 0, price[firm], gain[firm]);
        }
        for (int budget = 0; budget <= 150; budget += 3) {
            int best = 0;
            for (int set = 1; set < 1024; set++) {
                boolean isLet = (set & 16) == 0 && sum(price, set) <= budget;
                int more = sum(gain, set) - sum(gain, best);
                int dearer = sum(price, set) - sum(price, best);
                if (isLet && (more > 0 || more == 0 && dearer < 0)) {
                    best = set;
                }
            }
            best(x, budget, sum(gain, best), best);
        }
    }

    private static int sum(int[] row, int set) {
        int sum = 0;
        for (int firm = 0; firm < row.length; firm++) {
            sum += (set >> firm & 1) * row[firm];
        }
        return sum;
    }

    // "As a DAY begins that can be divided by 354 (not the DAY 0)."
    private static void almsOnTheDay() {
        RibafreeHouse x = Check.withPeople(4000);
        Check.is("the day 0", x.house(2), 0);
        int cash = 4000;
        int charity = 0;
        for (int year = 1; year <= 11; year++) {
            Check.passTo(x, 354 * year - 1);
            Check.is("the day before", x.house(2), charity);
            x.pass(1);
            charity += cash / 40;
            cash -= cash / 40;
            Check.is("CHARITY of year " + year, x.house(2), charity);
            Check.is("CASH", x.ofPerson(0, 0), cash);
            x.pass(1);
            Check.is("the day behind", x.house(2), charity);
        }
        Check.passTo(x, 4000);
        Check.is("the last day", x.house(2), charity);
    }

    // "With CASH of 85 or more gives CASH / 40", rounded down.
    private static void almsRoundedDown() {
        int[][] rows = {{0, 0}, {1, 0}, {40, 0}, {79, 0}, {80, 0}, {84, 0}, {85, 2}, {86, 2},
            {119, 2}, {120, 3}, {159, 3}, {160, 4}, {9999, 249}};
        for (int[] row : rows) {
            RibafreeHouse x = Check.withPeople(row[0]);
            x.pass(354);
            Check.is("CASH of " + row[0], x.ofPerson(0, 0), row[0] - row[1]);
            Check.is("CHARITY", x.house(2), row[1]);
        }
    }

    private static void almsTwiceInOnePass() {
        RibafreeHouse x = Check.withPeople(9999);
        x.pass(353);
        x.pass(400);
        Check.is("CHARITY", x.house(2), 249 + (9999 - 249) / 40);
        Check.is("CASH", x.ofPerson(0, 0), 9750 - 243);
    }

    // "Each of PEOPLE": not the HOUSE; not what is in the POOL; not one with CASH below 0.
    private static void almsOfNobody() {
        RibafreeHouse x = Check.withPeople(9999, 5, 84);
        x.deposit(0, 9999);
        x.venture();
        x.join(0, 1, 5, 0);
        x.result(0, -900, 1);
        x.pass(354);
        Check.is("CHARITY", x.house(2), 0);
        Check.is("CASH of 1", x.ofPerson(1, 0), -900);
        Check.is("CASH of 2", x.ofPerson(2, 0), 84);
        Check.is("DEPOSIT of 0", x.ofPerson(0, 2), 9999);
        Check.is("CASH of the house", x.house(1), 10000);
    }

    // "As a DAY begins: RENTS (LEASE by LEASE), then ALMS."
    private static void almsAfterRents() {
        int[][] rows = {{94, 0}, {95, 2}, {96, 2}, {129, 2}, {130, 3}};
        for (int[] row : rows) {
            RibafreeHouse x = Check.withPeople(row[0]);
            x.thing(110, -1);
            x.buy(0);
            x.take(0);
            x.pass(324);
            x.lease(0, 0, 99, 99);
            x.pass(30);
            Check.is("CHARITY", x.house(2), row[1]);
            Check.is("CASH of 0", x.ofPerson(0, 0), row[0] - 10 - row[1]);
            Check.is("CASH of the house", x.house(1), 9900);
        }
    }
}
