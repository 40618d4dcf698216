/** Promises 8, 9, 25 and 31: sell, pay, ofSale, tell. */
public final class SalesTest {
    public static void main(String[] args) {
        selling();
        voidSales();
        wrongSelling();
        paying();
        fees();
        feeOfNothing();
        rebates();
        wrongPaying();
        wrongAsking();
        Check.end();
    }

    private static void asks(RibafreeHouse x, int sale, int... due) {
        for (int what = 0; what < due.length; what++) {
            Check.is("ofSale(" + sale + ", " + what + ")", x.ofSale(sale, what), due[what]);
        }
    }

    /** A house where 0 owes 111 for thing 0, in 4 PARTS of 27, 27, 27 and 30, at a MARKUP of 11. */
    private static RibafreeHouse sold() {
        RibafreeHouse x = Check.withPeople(1000, 1000);
        x.thing(100, -1);
        x.buy(0);
        x.sell(0, 0, 11, 4);
        return x;
    }

    private static void selling() {
        RibafreeHouse x = sold();
        asks(x, 0, 0, 0, 111, 0, 4, 0, 30, 27, 0, 0);
        Check.is("owner", x.ofThing(0, 1), 0);
        Check.is("held", x.ofThing(0, 2), 1);
        Check.is("nothing is paid yet", x.house(1), 9900);
        Check.is("parts to pay", x.ofPerson(0, 4), 4);
        Check.is("together", x.ofPerson(0, 5), 111);
        Check.is("parts of another", x.ofPerson(1, 4), 0);
        Check.is("tell(0)", x.tell(0), "sale 0: 111 in 4, 4 left");
        x.pass(7);
        x.thing(999, -1);
        x.buy(1);
        Check.is("sell", x.sell(1, 0, 99, 12), 1);
        asks(x, 1, 1, 0, 999 + 989, 0, 12, 0, 37, 165, 0, 0);
        Check.is("parts to pay", x.ofPerson(0, 4), 16);
        Check.is("together", x.ofPerson(0, 5), 111 + 1988);
        Check.is("SALES", x.house(6), 2);
    }

    private static void voidSales() {
        RibafreeHouse x = Check.withPeople(1000, 1000);
        x.thing(50, -1);
        x.thing(50, 1);
        Check.is("sell", x.sell(0, 0, 50, 3), 0);
        asks(x, 0, 0, 0, 0, 1, 3, 0, -1, 0, 0, 0);
        Check.is("tell(0)", x.tell(0), "sale 0: 0 in 3, void");
        x.buy(1);
        Check.is("sell", x.sell(1, 1, 50, 3), 1);
        asks(x, 1, 1, 1, 75, 8, 3, 0, -1, 0, 0, 0);
        Check.is("owner", x.ofThing(1, 1), 8);
        Check.is("not held", x.ofThing(1, 2), 0);
        Check.is("CASH of 1", x.ofPerson(1, 0), 1050);
        Check.is("parts to pay", x.ofPerson(1, 4), 0);
        Check.is("together", x.ofPerson(1, 5), 0);
        Check.is("VOID ones", x.house(7), 2);
        Check.is("DONE ones", x.house(8), 0);
        Check.forbid(x, 0);
        Check.is("sell", x.sell(1, 0, 1, 1), 2);
        asks(x, 2, 1, 0, 50, 2);
        x.hold(0, 0, true);
        Check.is("missing stays", x.ofSale(2, 3), 2);
        Check.fails("pay", Check.STATE, x, () -> x.pay(2));
        Check.is("isSound()", x.isSound(), true);
    }

    private static void wrongSelling() {
        RibafreeHouse x = Check.withPeople(10, 10);
        x.thing(50, -1);
        Check.fails("sell", Check.INDEX, x, () -> x.sell(-1, 0, 0, 1));
        Check.fails("sell", Check.INDEX, x, () -> x.sell(1, 0, 0, 1));
        Check.fails("sell", Check.INDEX, x, () -> x.sell(0, 2, 100, 1));
        Check.fails("sell", Check.INDEX, x, () -> x.sell(0, -1, 0, 13));
        Check.fails("sell", Check.ARGUMENT, x, () -> x.sell(0, 0, -1, 1));
        Check.fails("sell", Check.ARGUMENT, x, () -> x.sell(0, 0, 100, 1));
        Check.fails("sell", Check.ARGUMENT, x, () -> x.sell(0, 0, 0, 0));
        Check.fails("sell", Check.ARGUMENT, x, () -> x.sell(0, 0, 0, 13));
        x.buy(0);
        x.take(0);
        x.lease(0, 1, 0, 0);
        Check.fails("sell of a leased one", Check.STATE, x, () -> x.sell(0, 0, 0, 1));
        Check.fails("sell", Check.ARGUMENT, x, () -> x.sell(0, 0, 0, 13));
        x.end(0, false);
        for (int sale = 0; sale < 12; sale++) {
            Check.is("sell", x.sell(0, 0, 0, 1), sale);
        }
        Check.fails("sell of a 13th", Check.STATE, x, () -> x.sell(0, 0, 0, 1));
        Check.fails("sell", Check.ARGUMENT, x, () -> x.sell(0, 0, 100, 1));
        Check.fails("sell", Check.INDEX, x, () -> x.sell(1, 0, 100, 1));
    }

    private static void paying() {
        RibafreeHouse x = sold();
        x.pass(30);
        Check.is("pay", x.pay(0), 27);
        asks(x, 0, 0, 0, 111, 0, 4, 1, 60, 27, 0, 0);
        Check.is("CASH of 0", x.ofPerson(0, 0), 973);
        Check.is("CASH of the house", x.house(1), 9927);
        x.pass(30);
        Check.is("pay", x.pay(0), 27);
        x.pass(30);
        Check.is("pay", x.pay(0), 27);
        Check.is("the last one takes the rest", x.ofSale(0, 7), 30);
        Check.is("together", x.ofPerson(0, 5), 30);
        Check.is("tell(0)", x.tell(0), "sale 0: 111 in 4, 1 left");
        x.pass(30);
        Check.is("pay", x.pay(0), 30);
        asks(x, 0, 0, 0, 111, 0, 4, 4, -1, 0, 0, 0);
        Check.is("DONE ones", x.house(8), 1);
        Check.is("tell(0)", x.tell(0), "sale 0: 111 in 4, done");
        Check.is("CASH of 0", x.ofPerson(0, 0), 889);
        Check.fails("pay", Check.STATE, x, () -> x.pay(0));
    }

    private static void fees() {
        RibafreeHouse x = Check.withPeople(0);
        x.thing(400, -1);
        x.buy(0);
        x.sell(0, 0, 0, 4);
        x.pass(40);
        Check.is("pay 10 days behind", x.pay(0), 100);
        Check.is("no fee", x.ofSale(0, 8), 0);
        x.pass(31);
        Check.is("pay 11 days behind", x.pay(0), 100);
        Check.is("a fee", x.ofSale(0, 8), 2);
        Check.is("CHARITY", x.house(2), 2);
        Check.is("CASH below 0", x.ofPerson(0, 0), -202);
        Check.is("CASH of the house", x.house(1), 9800);
        Check.forbid(x, 2);
        x.pass(100);
        Check.is("pay, forbidden", x.pay(0), 100);
        Check.is("no other fee", x.ofSale(0, 8), 2);
        x.hold(0, 2, true);
        Check.is("pay, allowed on this day", x.pay(0), 100);
        Check.is("fees ever", x.ofSale(0, 8), 4);
        Check.is("CHARITY", x.house(2), 4);
        Check.is("isSound()", x.isSound(), true);
    }

    private static void feeOfNothing() {
        RibafreeHouse x = Check.withPeople(5);
        x.thing(3, -1);
        x.buy(0);
        x.sell(0, 0, 0, 4);
        Check.is("a part of 0", x.ofSale(0, 7), 0);
        x.pass(200);
        Check.is("pay", x.pay(0), 0);
        Check.is("a fee of 1 at least", x.ofSale(0, 8), 1);
        x.pay(0);
        x.pay(0);
        Check.is("the rest", x.ofSale(0, 7), 3);
        Check.is("pay", x.pay(0), 3);
        Check.is("fees ever", x.ofSale(0, 8), 4);
        Check.is("CASH of 0", x.ofPerson(0, 0), -2);
        x.thing(149, -1);
        x.buy(1);
        x.sell(1, 0, 0, 1);
        x.pass(41);
        x.pay(1);
        Check.is("2 hundredths, rounded down", x.ofSale(1, 8), 2);
    }

    private static void rebates() {
        RibafreeHouse x = Check.withPeople(1000);
        x.thing(200, -1);
        x.buy(0);
        x.sell(0, 0, 50, 3);
        x.pass(20);
        // 50 * 100 / 150 is 33, half of it 16.
        Check.is("pay 10 days ahead", x.pay(0), 84);
        Check.is("a rebate", x.ofSale(0, 9), 16);
        Check.is("together, without rebate", x.ofPerson(0, 5), 200);
        Check.is("CASH of 0", x.ofPerson(0, 0), 916);
        Check.is("CASH of the house", x.house(1), 9884);
        x.pass(31);
        Check.is("pay 9 days ahead", x.pay(0), 100);
        Check.is("no other rebate", x.ofSale(0, 9), 16);
        Check.forbid(x, 1);
        Check.is("pay, forbidden", x.pay(0), 100);
        Check.is("no other rebate", x.ofSale(0, 9), 16);
        Check.is("no fee", x.ofSale(0, 8), 0);
        x.hold(0, 1, true);
        x.thing(999, -1);
        x.buy(1);
        x.sell(1, 0, 99, 1);
        // 99 * 1988 / 199 is 989, half of it 494.
        Check.is("a great one", x.pay(1), 1494);
        x.thing(10, -1);
        x.buy(2);
        x.sell(2, 0, 0, 1);
        Check.is("no markup, no rebate", x.pay(2), 10);
    }

    private static void wrongPaying() {
        RibafreeHouse x = sold();
        Check.fails("pay", Check.INDEX, x, () -> x.pay(-1));
        Check.fails("pay", Check.INDEX, x, () -> x.pay(1));
        x.sell(0, 1, 0, 1);
        Check.fails("pay of a void one", Check.STATE, x, () -> x.pay(1));
    }

    private static void wrongAsking() {
        RibafreeHouse x = sold();
        Check.fails("ofSale", Check.INDEX, x, () -> x.ofSale(-1, 0));
        Check.fails("ofSale", Check.INDEX, x, () -> x.ofSale(1, 10));
        Check.fails("ofSale", Check.ARGUMENT, x, () -> x.ofSale(0, -1));
        Check.fails("ofSale", Check.ARGUMENT, x, () -> x.ofSale(0, 10));
        Check.fails("tell", Check.INDEX, x, () -> x.tell(-1));
        Check.fails("tell", Check.INDEX, x, () -> x.tell(1));
    }
}
