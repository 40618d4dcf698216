/** Section 2, sentence by sentence: things, PRICES, PARTS, PILLARS, VOID SALES, FEES, REBATES. */
public final class SalesEdgesTest {
    public static void main(String[] args) {
        ownersAtFirst();
        payToOwner();
        cashBelowNothing();
        priceRoundedDown();
        partsRoundedDown();
        twelveParts();
        dueDays();
        pillarOfOwning();
        pillarOfHolding();
        pillarOfRuin();
        pillarOfSeller();
        pillarsTogether();
        voidChangesNothing();
        voidOfNeverBought();
        voidOfSold();
        feeAfterTenDays();
        feeRoundedDown();
        feeOfNothing();
        feeByQuestion();
        feeByOldestPart();
        rebateTenDaysAhead();
        rebateRoundedDown();
        rebateByQuestion();
        rebateOfNothing();
        doneAsAllIsPaid();
        told();
        Check.end();
    }

    /** A sale of a thing of that WORTH from the MARKET to person 0. */
    private static RibafreeHouse sale(int worth, int markup, int parts) {
        RibafreeHouse x = Check.withBought(worth);
        Check.is("sell", x.sell(0, 0, markup, parts), 0);
        return x;
    }

    // "An OWNER: one of PEOPLE, the HOUSE, or the MARKET (at first); HELD by its OWNER (at first)."
    private static void ownersAtFirst() {
        RibafreeHouse x = Check.withThings(1, 999);
        x.thing(5, 0);
        x.thing(5, 2);
        int[] owner = {9, 9, 0, 2};
        for (int thing = 0; thing < 4; thing++) {
            Check.is("OWNER", x.ofThing(thing, 1), owner[thing]);
            Check.is("held", x.ofThing(thing, 2), 1);
            Check.is("RUINED", x.ofThing(thing, 3), 0);
            Check.is("COST", x.ofThing(thing, 4), 0);
            Check.is("bought from", x.ofThing(thing, 5), -1);
            Check.is("LEASE", x.ofThing(thing, 6), -1);
        }
        Check.is("things of the house", x.house(12), 0);
    }

    // "The HOUSE pays its WORTH to its OWNER (the MARKET: to nobody)."
    private static void payToOwner() {
        RibafreeHouse x = Check.withThings(999, 1);
        x.thing(300, 2);
        Check.is("buy", x.buy(0), 999);
        Check.is("buy", x.buy(1), 1);
        Check.is("to nobody", x.house(13), 15000);
        Check.is("CHARITY", x.house(2), 0);
        Check.is("buy", x.buy(2), 300);
        Check.is("to its owner", x.ofPerson(2, 0), 5300);
        Check.is("to nobody else", x.house(13), 15300);
        Check.is("CASH of the house", x.house(1), 10000 - 1300);
    }

    // "CASH (it can be below 0)."
    private static void cashBelowNothing() {
        RibafreeHouse x = Check.withPeople(0);
        for (int thing = 0; thing < 12; thing++) {
            x.thing(999, -1);
            x.buy(thing);
        }
        Check.is("CASH of the house", x.house(1), 10000 - 12 * 999);
        x.sell(0, 0, 99, 1);
        Check.is("pay", x.pay(0), 1988 - 494);
        Check.is("CASH of 0", x.ofPerson(0, 0), -1494);
        Check.is("CASH of the house", x.house(1), -1988 + 1494);
        Check.is("isSound()", x.isSound(), true);
    }

    // "COST and a MARKUP (0 to 99), COST * MARKUP / 100", rounded down.
    private static void priceRoundedDown() {
        int[][] rows = {{1, 99, 1}, {2, 50, 3}, {2, 49, 2}, {99, 1, 99}, {100, 1, 101},
            {101, 1, 102}, {199, 1, 200}, {999, 0, 999}, {999, 99, 1988}, {333, 33, 442}};
        for (int[] row : rows) {
            RibafreeHouse x = sale(row[0], row[1], 1);
            Check.is("PRICE of " + row[0] + " and " + row[1], x.ofSale(0, 2), row[2]);
            Check.is("its only PART", x.ofSale(0, 7), row[2]);
        }
    }

    // "Each is the PRICE / how many, the last one takes the rest."
    private static void partsRoundedDown() {
        int[][] rows = {{10, 3, 3, 4}, {11, 12, 0, 11}, {12, 12, 1, 1}, {23, 12, 1, 12},
            {24, 12, 2, 2}, {1, 2, 0, 1}, {999, 7, 142, 147}, {1, 12, 0, 1}};
        for (int[] row : rows) {
            RibafreeHouse x = sale(row[0], 0, row[1]);
            int owed = row[0];
            for (int part = 1; part < row[1]; part++) {
                Check.is("PART " + part, x.ofSale(0, 7), row[2]);
                Check.is("together", x.ofPerson(0, 5), owed);
                Check.is("pay", x.pay(0), row[2]);
                owed -= row[2];
            }
            Check.is("together", x.ofPerson(0, 5), row[3]);
            Check.is("the last PART", x.ofSale(0, 7), row[3]);
            Check.is("pay", x.pay(0), row[3]);
            Check.is("together", x.ofPerson(0, 5), 0);
            Check.is("CASH of 0", x.ofPerson(0, 0), 5000 - row[0]);
        }
    }

    // "In 1 to 12 PARTS."
    private static void twelveParts() {
        RibafreeHouse one = sale(100, 0, 1);
        Check.is("PARTS", one.ofSale(0, 4), 1);
        Check.is("not paid yet", one.ofPerson(0, 4), 1);
        one.pay(0);
        Check.is("not paid yet", one.ofPerson(0, 4), 0);
        RibafreeHouse x = sale(100, 0, 12);
        for (int part = 0; part < 12; part++) {
            Check.is("PARTS", x.ofSale(0, 4), 12);
            Check.is("paid", x.ofSale(0, 5), part);
            Check.is("not paid yet", x.ofPerson(0, 4), 12 - part);
            x.pay(0);
        }
        Check.is("paid", x.ofSale(0, 5), 12);
    }

    // "Due each 30 DAYS behind the sale, the first one 30 DAYS behind it."
    private static void dueDays() {
        RibafreeHouse x = Check.withBought(100);
        x.pass(17);
        x.sell(0, 0, 0, 12);
        for (int part = 1; part <= 12; part++) {
            Check.is("due", x.ofSale(0, 6), 17 + 30 * part);
            x.pass(3);
            Check.is("due, days on", x.ofSale(0, 6), 17 + 30 * part);
            x.pay(0);
        }
        Check.is("due no more", x.ofSale(0, 6), -1);
        Check.is("no next one", x.ofSale(0, 7), 0);
    }

    // "0 the HOUSE does not own it."
    private static void pillarOfOwning() {
        RibafreeHouse x = Check.withThings(10);
        x.thing(10, 1);
        Check.is("of the market", x.pillars(0, 0), 1);
        Check.is("of one of people", x.pillars(1, 0), 1);
        Check.is("of the buyer", x.pillars(1, 1), 1);
        Check.forbid(x, 0);
        Check.is("not held neither, but not owned", x.pillars(0, 0), 1);
        x.buy(0);
        x.take(0);
        Check.is("owned", x.pillars(0, 0), 0);
        x.sell(0, 0, 0, 1);
        Check.is("sold", x.pillars(0, 1), 1);
        Check.is("sold to the buyer", x.pillars(0, 0), 1);
    }

    // "1 the HOUSE owns it, but does not hold it, and QUESTION 0 is not ALLOWED on this DAY."
    private static void pillarOfHolding() {
        RibafreeHouse x = Check.withBought(10);
        Check.forbid(x, 0);
        Check.is("two are for it", x.pillars(0, 0), 2);
        x.hold(0, 0, true);
        Check.is("three are for it", x.pillars(0, 0), 0);
        x.pass(1);
        x.hold(0, 0, false);
        Check.is("it was allowed yesterday", x.pillars(0, 0), 2);
        x.pass(1);
        x.hold(0, 0, true);
        Check.is("it was not allowed yesterday", x.pillars(0, 0), 0);
        x.hold(0, 0, false);
        x.take(0);
        Check.is("held", x.pillars(0, 0), 0);
        for (int question = 1; question < 5; question++) {
            RibafreeHouse other = Check.withBought(10);
            Check.forbid(other, question);
            Check.is("another question", other.pillars(0, 0), 0);
        }
    }

    // "2 it is RUINED."
    private static void pillarOfRuin() {
        RibafreeHouse x = Check.withHeld(10, 10);
        x.ruin(0);
        Check.is("ruined", x.pillars(0, 0), 4);
        Check.is("another thing", x.pillars(1, 0), 0);
        x.sell(1, 0, 0, 2);
        x.ruin(1);
        Check.is("ruined behind the sale", x.ofSale(0, 3), 0);
        Check.is("its parts are due all the same", x.pay(0), 5);
        Check.is("of the buyer now", x.ofThing(1, 1), 0);
    }

    // "3 the buyer is the one from whom the HOUSE bought it last."
    private static void pillarOfSeller() {
        RibafreeHouse x = Check.withPeople(100, 100, 100);
        x.thing(10, 0);
        x.buy(0);
        Check.is("from 0", x.pillars(0, 0), 8);
        Check.is("from 0", x.pillars(0, 1), 0);
        x.sell(0, 1, 0, 1);
        Check.is("still the last one", x.pillars(0, 0), 9);
        x.buy(0);
        Check.is("from 1", x.ofThing(0, 5), 1);
        Check.is("from 1", x.pillars(0, 1), 8);
        Check.is("no longer from 0", x.pillars(0, 0), 0);
        Check.is("sell", x.sell(0, 0, 0, 1), 1);
        Check.is("it is not void", x.ofSale(1, 3), 0);
        RibafreeHouse other = Check.withBought(10);
        for (int person = 0; person < 3; person++) {
            Check.is("from the market", other.pillars(0, person), 0);
        }
    }

    private static void pillarsTogether() {
        RibafreeHouse x = Check.withPeople(100, 100);
        x.thing(10, 0);
        x.buy(0);
        Check.forbid(x, 0);
        Check.is("not held, seller", x.pillars(0, 0), 2 + 8);
        x.ruin(0);
        Check.is("not held, ruined", x.pillars(0, 1), 2 + 4);
        Check.is("not held, ruined, seller", x.pillars(0, 0), 2 + 4 + 8);
        x.take(0);
        Check.is("ruined, seller", x.pillars(0, 0), 4 + 8);
        Check.is("sell", x.sell(0, 0, 0, 1), 0);
        Check.is("they are kept", x.ofSale(0, 3), 4 + 8);
        x.thing(10, 1);
        x.ruin(1);
        Check.is("not owned, ruined", x.pillars(1, 0), 1 + 4);
        x.thing(10, 0);
        x.buy(2);
        x.take(2);
        x.sell(2, 1, 0, 1);
        Check.is("not owned, seller", x.pillars(2, 0), 1 + 8);
        x.ruin(2);
        Check.is("not owned, ruined, seller", x.pillars(2, 0), 1 + 4 + 8);
    }

    // "The SALE is VOID: it is kept so, nothing is paid or changed, no PART of it is ever due."
    private static void voidChangesNothing() {
        RibafreeHouse x = Check.withBought(100);
        Check.forbid(x, 0);
        Check.is("sell", x.sell(0, 1, 10, 5), 0);
        int[] thing = {100, 8, 0, 0, 100, 9, -1};
        for (int what = 0; what < thing.length; what++) {
            Check.is("ofThing(0, " + what + ")", x.ofThing(0, what), thing[what]);
        }
        Check.is("CASH of 1", x.ofPerson(1, 0), 5000);
        Check.is("CASH of the house", x.house(1), 9900);
        x.hold(0, 0, true);
        x.take(0);
        int[] due = {0, 1, 110, 2, 5, 0, -1, 0, 0, 0};
        for (int time = 0; time < 2; time++) {
            for (int what = 0; what < due.length; what++) {
                Check.is("ofSale(0, " + what + ")", x.ofSale(0, what), due[what]);
            }
            Check.fails("pay", Check.STATE, x, () -> x.pay(0));
            Check.is("PARTS to pay", x.ofPerson(1, 4), 0);
            Check.is("together", x.ofPerson(1, 5), 0);
            x.pass(100);
        }
        Check.is("sold now", x.sell(0, 1, 10, 5), 1);
        Check.is("not void", x.ofSale(1, 3), 0);
        Check.is("PARTS to pay", x.ofPerson(1, 4), 5);
        Check.is("VOID ones", x.house(7), 1);
    }

    // "COST is 0 of a thing that was never bought."
    private static void voidOfNeverBought() {
        RibafreeHouse x = Check.withThings(999);
        x.sell(0, 0, 99, 1);
        Check.is("PRICE", x.ofSale(0, 2), 0);
        Check.is("tell(0)", x.tell(0), "sale 0: 0 in 1, void");
        x.buy(0);
        Check.is("PRICE as it was", x.ofSale(0, 2), 0);
    }

    private static void voidOfSold() {
        RibafreeHouse x = sale(100, 50, 2);
        Check.is("sell", x.sell(0, 1, 20, 3), 1);
        Check.is("PRICE by what it cost", x.ofSale(1, 2), 120);
        Check.is("not owned", x.ofSale(1, 3), 1);
        Check.is("its owner", x.ofThing(0, 1), 0);
        Check.is("the first one stands", x.ofPerson(0, 5), 150);
        Check.is("tell(1)", x.tell(1), "sale 1: 120 in 3, void");
    }

    // "If that is more than 10 DAYS behind the DAY on which it was due."
    private static void feeAfterTenDays() {
        int[] fee = {0, 0, 0, 0, 2, 2, 2};
        int[] days = {29, 30, 31, 40, 41, 42, 400};
        for (int row = 0; row < days.length; row++) {
            RibafreeHouse x = sale(100, 0, 1);
            x.pass(days[row]);
            Check.is("the house has the PART alone", x.pay(0), 100);
            Check.is("FEE on " + days[row], x.ofSale(0, 8), fee[row]);
            int alms = days[row] == 400 ? 125 * 3 : 0;
            Check.is("CHARITY", x.house(2), fee[row] + alms);
            Check.is("CASH of 0", x.ofPerson(0, 0), 4900 - fee[row] - alms / 3);
            Check.is("CASH of the house", x.house(1), 10000);
            Check.is("no REBATE", x.ofSale(0, 9), 0);
        }
    }

    // "A FEE of 2 hundredths of it (1 at least)", rounded down.
    private static void feeRoundedDown() {
        int[][] rows = {{1, 1}, {49, 1}, {50, 1}, {51, 1}, {99, 1}, {100, 2}, {149, 2},
            {150, 3}, {999, 19}};
        for (int[] row : rows) {
            RibafreeHouse x = sale(row[0], 0, 1);
            x.pass(50);
            x.pay(0);
            Check.is("FEE of " + row[0], x.ofSale(0, 8), row[1]);
            Check.is("CHARITY", x.house(2), row[1]);
        }
        RibafreeHouse most = sale(999, 99, 1);
        most.pass(50);
        Check.is("pay", most.pay(0), 1988);
        Check.is("FEE of the PART, MARKUP and all", most.ofSale(0, 8), 39);
    }

    // "1 at least, also of a PART of 0."
    private static void feeOfNothing() {
        RibafreeHouse x = sale(1, 0, 12);
        x.pass(400);
        int cash = x.ofPerson(0, 0);
        int charity = x.house(2);
        for (int part = 1; part <= 12; part++) {
            Check.is("pay", x.pay(0), part == 12 ? 1 : 0);
            Check.is("FEES ever", x.ofSale(0, 8), part);
        }
        Check.is("CASH of 0", x.ofPerson(0, 0), cash - 12 - 1);
        Check.is("CHARITY", x.house(2), charity + 12);
        Check.is("isSound()", x.isSound(), true);
    }

    // "And QUESTION 2 is ALLOWED on this DAY."
    private static void feeByQuestion() {
        RibafreeHouse x = sale(400, 0, 4);
        Check.forbid(x, 2);
        x.pass(200);
        x.pay(0);
        Check.is("two are for it", x.ofSale(0, 8), 0);
        x.hold(0, 2, true);
        x.pay(0);
        Check.is("three are for it", x.ofSale(0, 8), 2);
        x.hold(0, 2, false);
        x.pay(0);
        Check.is("two are for it", x.ofSale(0, 8), 2);
        x.pass(1);
        x.hold(0, 2, true);
        x.pay(0);
        Check.is("three are for it", x.ofSale(0, 8), 4);
        for (int question = 0; question < 5; question++) {
            RibafreeHouse other = sale(100, 0, 1);
            Check.forbid(other, question);
            other.pass(100);
            other.pay(0);
            Check.is("QUESTION " + question, other.ofSale(0, 8), question == 2 ? 0 : 2);
        }
    }

    // "To PAY a PART: the oldest PART of a SALE that is not paid."
    private static void feeByOldestPart() {
        RibafreeHouse x = sale(300, 50, 3);
        x.pass(50);
        Check.is("20 days behind", x.pay(0), 150);
        Check.is("FEE", x.ofSale(0, 8), 3);
        Check.is("10 days ahead", x.pay(0), 150 - 25);
        Check.is("REBATE", x.ofSale(0, 9), 25);
        Check.is("40 days ahead", x.pay(0), 150 - 25);
        Check.is("FEES ever", x.ofSale(0, 8), 3);
        Check.is("REBATES ever", x.ofSale(0, 9), 50);
    }

    // "If it is 10 DAYS or more ahead of it."
    private static void rebateTenDaysAhead() {
        int[] days = {0, 1, 19, 20, 21, 29, 30};
        for (int day : days) {
            RibafreeHouse x = sale(100, 50, 1);
            if (day > 0) {
                x.pass(day);
            }
            int rebate = day <= 20 ? 25 : 0;
            Check.is("pay on " + day, x.pay(0), 150 - rebate);
            Check.is("REBATE", x.ofSale(0, 9), rebate);
            Check.is("CASH of 0", x.ofPerson(0, 0), 4850 + rebate);
            Check.is("CASH of the house", x.house(1), 9900 + 150 - rebate);
            Check.is("no FEE", x.ofSale(0, 8), 0);
            Check.is("CHARITY", x.house(2), 0);
        }
    }

    // "A REBATE of MARKUP * PART / (100 + MARKUP) / 2", rounded down.
    private static void rebateRoundedDown() {
        int[][] rows = {{4, 99, 7, 1}, {1, 99, 1, 0}, {2, 99, 3, 0}, {3, 99, 5, 1},
            {100, 1, 101, 0}, {200, 1, 202, 1}, {399, 1, 402, 1}, {400, 1, 404, 2},
            {999, 99, 1988, 494}, {999, 50, 1498, 249}, {100, 3, 103, 1}, {101, 3, 104, 1}};
        for (int[] row : rows) {
            RibafreeHouse x = sale(row[0], row[1], 1);
            Check.is("PRICE", x.ofSale(0, 2), row[2]);
            Check.is("pay of " + row[2], x.pay(0), row[2] - row[3]);
            Check.is("REBATE", x.ofSale(0, 9), row[3]);
        }
    }

    // "And QUESTION 1 is ALLOWED": as for a FEE, on the DAY of the payment.
    private static void rebateByQuestion() {
        RibafreeHouse x = sale(400, 50, 4);
        Check.forbid(x, 1);
        Check.is("two are for it", x.pay(0), 150);
        x.hold(0, 1, true);
        Check.is("three are for it", x.pay(0), 125);
        x.pass(1);
        x.hold(0, 1, false);
        Check.is("two are for it", x.pay(0), 150);
        Check.is("REBATES ever", x.ofSale(0, 9), 25);
        x.hold(0, 1, true);
        Check.is("three are for it", x.pay(0), 125);
        for (int question = 0; question < 5; question++) {
            RibafreeHouse other = sale(100, 50, 1);
            Check.forbid(other, question);
            Check.is("QUESTION " + question, other.pay(0), question == 1 ? 150 : 125);
        }
    }

    private static void rebateOfNothing() {
        RibafreeHouse x = sale(1, 99, 3);
        Check.is("a PART of 0", x.pay(0), 0);
        Check.is("REBATE", x.ofSale(0, 9), 0);
        RibafreeHouse other = sale(999, 0, 1);
        Check.is("a MARKUP of 0", other.pay(0), 999);
        Check.is("REBATE", other.ofSale(0, 9), 0);
    }

    // "A SALE is DONE as all its PARTS are paid."
    private static void doneAsAllIsPaid() {
        RibafreeHouse x = sale(1, 0, 3);
        x.pay(0);
        x.pay(0);
        Check.is("DONE ones", x.house(8), 0);
        Check.is("the last PART", x.ofSale(0, 7), 1);
        x.pay(0);
        Check.is("DONE ones", x.house(8), 1);
        Check.is("VOID ones", x.house(7), 0);
        int[] due = {0, 0, 1, 0, 3, 3, -1, 0, 0, 0};
        for (int what = 0; what < due.length; what++) {
            Check.is("ofSale(0, " + what + ")", x.ofSale(0, what), due[what]);
        }
        Check.fails("pay", Check.STATE, x, () -> x.pay(0));
    }

    // "'sale ', its number, ': ', PRICE, ' in ', PARTS, and ', void', ', done', or ..."
    private static void told() {
        RibafreeHouse x = Check.withBought(999);
        for (int sale = 0; sale < 10; sale++) {
            x.sell(0, 2, 99, 12);
        }
        Check.is("tell(0)", x.tell(0), "sale 0: 1988 in 12, 12 left");
        Check.is("tell(9)", x.tell(9), "sale 9: 1988 in 12, void");
        for (int part = 11; part > 0; part--) {
            x.pay(0);
            Check.is("tell(0)", x.tell(0), "sale 0: 1988 in 12, " + part + " left");
        }
        x.pay(0);
        Check.is("tell(0)", x.tell(0), "sale 0: 1988 in 12, done");
        x.thing(1, -1);
        x.buy(1);
        x.sell(1, 0, 0, 1);
        Check.is("tell(10)", x.tell(10), "sale 10: 1 in 1, 1 left");
    }
}
