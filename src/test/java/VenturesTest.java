/** Promises 13 to 16 and 27: venture, join, result, buyOut, ofVenture. */
public final class VenturesTest {
    public static void main(String[] args) {
        ventures();
        joining();
        wrongJoining();
        profits();
        greatProfit();
        losses();
        negligence();
        wrongResults();
        buyingOut();
        wrongBuyingOut();
        wrongAsking();
        Check.end();
    }

    private static void capitals(RibafreeHouse x, int venture, int... due) {
        for (int person = 0; person < due.length - 1; person++) {
            Check.is("CAPITAL of " + person, x.ofVenture(venture, person, 0), due[person]);
        }
        Check.is("CAPITAL of the house", x.ofVenture(venture, -1, 0), due[due.length - 1]);
    }

    private static void ventures() {
        RibafreeHouse x = new RibafreeHouse();
        for (int venture = 0; venture < 6; venture++) {
            Check.is("venture", x.venture(), venture);
        }
        Check.fails("venture", Check.STATE, x, x::venture);
        Check.is("VENTURES", x.house(10), 6);
    }

    private static void joining() {
        RibafreeHouse x = Check.withPeople(999, 50);
        x.venture();
        x.venture();
        Check.is("join", x.join(0, 0, 999, 60), 60);
        Check.is("CASH of 0", x.ofPerson(0, 0), 0);
        Check.is("join", x.join(0, -1, 1, 0), 60);
        Check.is("CASH of the house", x.house(1), 9999);
        Check.is("join", x.join(0, 1, 30, 40), 100);
        Check.is("join", x.join(1, 1, 20, 100), 100);
        Check.is("SHARE", x.ofVenture(0, 0, 1), 60);
        Check.is("SHARE", x.ofVenture(0, 1, 1), 40);
        Check.is("SHARE", x.ofVenture(1, 0, 1), 0);
        Check.is("CAPITAL in all", x.ofPerson(1, 7), 50);
        capitals(x, 0, 999, 30, 1);
        capitals(x, 1, 0, 20, 0);
    }

    private static void wrongJoining() {
        RibafreeHouse x = Check.withPeople(100, 9);
        x.venture();
        Check.fails("join", Check.INDEX, x, () -> x.join(-1, 0, 1, 1));
        Check.fails("join", Check.INDEX, x, () -> x.join(1, 0, 1, 1));
        Check.fails("join", Check.INDEX, x, () -> x.join(0, 2, 0, 1));
        Check.fails("join", Check.INDEX, x, () -> x.join(0, -2, 1, 1));
        Check.fails("join", Check.ARGUMENT, x, () -> x.join(0, 0, 0, 1));
        Check.fails("join", Check.ARGUMENT, x, () -> x.join(0, 0, 1000, 1));
        Check.fails("join", Check.ARGUMENT, x, () -> x.join(0, 0, 1, -1));
        Check.fails("join", Check.ARGUMENT, x, () -> x.join(0, 0, 1, 101));
        Check.fails("join, short of cash", Check.STATE, x, () -> x.join(0, 1, 10, 1));
        x.join(0, 0, 1, 50);
        Check.fails("join twice", Check.STATE, x, () -> x.join(0, 0, 1, 1));
        Check.fails("join above 100", Check.STATE, x, () -> x.join(0, 1, 9, 51));
        Check.is("join", x.join(0, 1, 9, 50), 100);
        Check.is("join with no share", x.join(0, -1, 999, 0), 100);
        Check.fails("join twice", Check.STATE, x, () -> x.join(0, -1, 1, 0));
        Check.fails("join twice", Check.ARGUMENT, x, () -> x.join(0, -1, 0, 0));
        for (int thing = 0; thing < 10; thing++) {
            x.thing(900, -1);
            x.buy(thing);
        }
        x.venture();
        Check.is("CASH of the house", x.house(1), 1);
        Check.fails("join of a poor house", Check.STATE, x, () -> x.join(1, -1, 2, 0));
        Check.is("join", x.join(1, -1, 1, 0), 0);
    }

    private static void profits() {
        RibafreeHouse x = Check.withPeople(100, 100, 100);
        x.venture();
        Check.is("without partners", x.result(0, 7, -2), 0);
        Check.is("what was left", x.ofVenture(0, -1, 2), 7);
        Check.is("CASH of the house", x.house(1), 10007);
        x.join(0, 1, 50, 33);
        x.join(0, 0, 50, 33);
        Check.is("result", x.result(0, 50, -2), 100);
        Check.is("profit of 0", x.ofVenture(0, 0, 2), 16);
        Check.is("profit of 1", x.ofVenture(0, 1, 2), 16);
        Check.is("profit of 2", x.ofVenture(0, 2, 2), 0);
        Check.is("what was left", x.ofVenture(0, -1, 2), 25);
        Check.is("CASH of 0", x.ofPerson(0, 0), 66);
        Check.is("CASH of the house", x.house(1), 10025);
        x.join(0, -1, 10, 20);
        Check.is("result", x.result(0, 10, 1), 110);
        Check.is("profit of 1", x.ofVenture(0, 1, 2), 19);
        Check.is("the house", x.ofVenture(0, -1, 2), 29);
        Check.is("CASH of the house", x.house(1), 10019);
        Check.is("a result of 0", x.result(0, 0, -2), 110);
        x.result(0, -110, -2);
        Check.is("a partner without capital", x.result(0, 100, -2), 0);
        Check.is("profit of 0", x.ofVenture(0, 0, 2), 16 + 3 + 33);
    }

    private static void greatProfit() {
        RibafreeHouse x = Check.withPeople(100, 100);
        x.venture();
        x.join(0, 0, 1, 33);
        x.join(0, 1, 1, 66);
        x.join(0, -1, 1, 1);
        x.result(0, 999, -2);
        Check.is("profit of 0", x.ofVenture(0, 0, 2), 329);
        Check.is("profit of 1", x.ofVenture(0, 1, 2), 659);
        Check.is("the house", x.ofVenture(0, -1, 2), 11);
    }

    private static void losses() {
        RibafreeHouse x = Check.withPeople(999, 999, 999);
        x.venture();
        x.join(0, -1, 10, 0);
        x.join(0, 2, 10, 0);
        x.join(0, 0, 10, 0);
        Check.is("loss", x.result(0, -4, -2), 26);
        // 4 * 10 / 30 is 1 of each, and the one that is left is borne by 0.
        capitals(x, 0, 8, 0, 9, 9);
        Check.is("loss", x.result(0, -2, -2), 24);
        // 2 * 8 / 26 is 0 of each, and both that are left are borne by 0 and 2.
        capitals(x, 0, 7, 0, 8, 9);
        Check.is("loss", x.result(0, -24, -2), 0);
        capitals(x, 0, 0, 0, 0, 0);
        Check.is("not borne by anybody", x.result(0, -999, -2), 0);
        Check.is("CASH of 0", x.ofPerson(0, 0), 989);
        x.venture();
        x.join(1, 0, 1, 0);
        x.join(1, 1, 300, 0);
        x.join(1, 2, 300, 0);
        Check.is("loss", x.result(1, -599, -2), 2);
        // 599 / 601 is 0, 599 * 300 / 601 is 299 of both; the one that is left is borne by 0.
        capitals(x, 1, 0, 1, 1, 0);
        Check.is("loss", x.result(1, -1, -2), 1);
        capitals(x, 1, 0, 0, 1, 0);
        Check.is("above capital", x.result(1, -5, -2), 0);
        capitals(x, 1, 0, 0, 0, 0);
    }

    private static void negligence() {
        RibafreeHouse x = Check.withPeople(50, 50);
        x.venture();
        x.join(0, 0, 50, 10);
        x.join(0, -1, 50, 10);
        Check.is("loss by 0", x.result(0, -999, 0), 100);
        Check.is("CASH of 0", x.ofPerson(0, 0), -999);
        Check.is("loss by the house", x.result(0, -3, -1), 100);
        Check.is("CASH of the house", x.house(1), 10000 - 50 - 3);
        Check.is("a profit in spite of it", x.result(0, 100, 0), 100);
        Check.is("CASH of 0", x.ofPerson(0, 0), -989);
    }

    private static void wrongResults() {
        RibafreeHouse x = Check.withPeople(50, 50);
        x.venture();
        x.join(0, 0, 50, 10);
        Check.fails("result", Check.INDEX, x, () -> x.result(-1, 0, -2));
        Check.fails("result", Check.INDEX, x, () -> x.result(1, 0, -2));
        Check.fails("result", Check.INDEX, x, () -> x.result(0, 1000, 2));
        Check.fails("result", Check.INDEX, x, () -> x.result(0, 0, -3));
        Check.fails("result", Check.ARGUMENT, x, () -> x.result(0, 1000, 1));
        Check.fails("result", Check.ARGUMENT, x, () -> x.result(0, -1000, -2));
        Check.fails("result", Check.STATE, x, () -> x.result(0, -1, 1));
        Check.fails("result", Check.STATE, x, () -> x.result(0, 1, 1));
        Check.fails("result", Check.STATE, x, () -> x.result(0, -1, -1));
        Check.is("result", x.result(0, 999, -2), 50);
        Check.is("result", x.result(0, -999, 0), 50);
    }

    private static void buyingOut() {
        RibafreeHouse x = Check.withPeople(100, 100, 9999);
        x.venture();
        x.join(0, 0, 60, 10);
        x.join(0, 1, 40, 20);
        x.join(0, -1, 5, 30);
        Check.is("buyOut", x.buyOut(0, 0, 1, 60), 0);
        capitals(x, 0, 0, 100, 5);
        Check.is("CASH of 0", x.ofPerson(0, 0), 100);
        Check.is("CASH of 1", x.ofPerson(1, 0), 0);
        Check.is("SHARES do not change", x.ofVenture(0, 0, 1), 10);
        Check.is("buyOut", x.buyOut(0, 1, -1, 100), 0);
        capitals(x, 0, 0, 0, 105);
        Check.is("CASH of the house", x.house(1), 10000 - 105);
        Check.is("buyOut", x.buyOut(0, -1, 0, 1), 104);
        Check.is("CASH of the house", x.house(1), 10000 - 104);
        x.venture();
        x.join(1, -1, 999, 0);
        x.join(1, 0, 1, 0);
        x.result(0, 999, -2);
        x.join(0, 2, 1, 0);
        x.join(1, 2, 1, 0);
        Check.is("buyOut of all", x.buyOut(1, -1, 2, 999), 0);
        Check.is("CAPITAL", x.ofVenture(1, 2, 0), 1000);
        Check.fails("join of a partner without capital", Check.STATE, x, () -> x.join(0, 1, 1, 0));
    }

    private static void wrongBuyingOut() {
        RibafreeHouse x = Check.withPeople(100, 30, 100);
        x.venture();
        x.join(0, 0, 60, 10);
        x.join(0, 1, 20, 10);
        Check.fails("buyOut", Check.INDEX, x, () -> x.buyOut(-1, 0, 1, 1));
        Check.fails("buyOut", Check.INDEX, x, () -> x.buyOut(1, 0, 1, 1));
        Check.fails("buyOut", Check.INDEX, x, () -> x.buyOut(0, 3, 3, 1));
        Check.fails("buyOut", Check.INDEX, x, () -> x.buyOut(0, 0, -2, 1));
        Check.fails("buyOut", Check.ARGUMENT, x, () -> x.buyOut(0, 2, 2, 1));
        Check.fails("buyOut", Check.ARGUMENT, x, () -> x.buyOut(0, -1, -1, 1));
        Check.fails("buyOut", Check.ARGUMENT, x, () -> x.buyOut(0, 0, 1, 0));
        Check.fails("buyOut", Check.ARGUMENT, x, () -> x.buyOut(0, 0, 2, 1000));
        Check.fails("buyOut to no partner", Check.STATE, x, () -> x.buyOut(0, 0, 2, 1));
        Check.fails("buyOut from no partner", Check.STATE, x, () -> x.buyOut(0, 2, 0, 1));
        Check.fails("buyOut to no partner", Check.STATE, x, () -> x.buyOut(0, 0, -1, 1));
        Check.fails("buyOut, short of capital", Check.STATE, x, () -> x.buyOut(0, 1, 0, 21));
        Check.fails("buyOut, short of cash", Check.STATE, x, () -> x.buyOut(0, 0, 1, 11));
        Check.is("buyOut", x.buyOut(0, 0, 1, 10), 50);
    }

    private static void wrongAsking() {
        RibafreeHouse x = Check.withPeople(100);
        x.venture();
        Check.fails("ofVenture", Check.INDEX, x, () -> x.ofVenture(-1, 0, 0));
        Check.fails("ofVenture", Check.INDEX, x, () -> x.ofVenture(1, 0, 0));
        Check.fails("ofVenture", Check.INDEX, x, () -> x.ofVenture(0, 1, 3));
        Check.fails("ofVenture", Check.INDEX, x, () -> x.ofVenture(0, -2, 0));
        Check.fails("ofVenture", Check.ARGUMENT, x, () -> x.ofVenture(0, 0, -1));
        Check.fails("ofVenture", Check.ARGUMENT, x, () -> x.ofVenture(0, -1, 3));
        Check.is("no partner", x.ofVenture(0, 0, 0), 0);
    }
}
