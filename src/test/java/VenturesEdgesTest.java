/** Section 4, sentence by sentence: CAPITAL, SHARES, profits, losses, NEGLIGENCE, buying out. */
public final class VenturesEdgesTest {
    public static void main(String[] args) {
        noPartners();
        leastAndMostCapital();
        sharesOfAll();
        profitOfOne();
        profitToAll();
        profitRoundedDown();
        profitOfHouse();
        profitByShareNotCapital();
        resultOfNothing();
        lossOfOne();
        lossOfEight();
        lossOfCapital();
        lossByCapitalNotShare();
        lossInOrderOfNumbers();
        lossPastThoseWithout();
        lossAgain();
        lossAboveCapital();
        negligence();
        negligenceOfHouse();
        negligenceWithoutCapital();
        partnerWithoutCapital();
        boughtOut();
        boughtAboveMost();
        eachForItself();
        Check.end();
    }

    /** A VENTURE of persons 0, 1 and so on, and of the HOUSE as the last one, without SHARES. */
    private static RibafreeHouse capitals(int... capital) {
        RibafreeHouse x = new RibafreeHouse();
        x.venture();
        for (int person = 0; person < capital.length - 1; person++) {
            x.person(1000);
            x.join(0, person, capital[person], 0);
        }
        x.join(0, -1, capital[capital.length - 1], 0);
        return x;
    }

    private static void are(RibafreeHouse x, int... due) {
        for (int person = 0; person < due.length - 1; person++) {
            Check.is("CAPITAL of " + person, x.ofVenture(0, person, 0), due[person]);
        }
        Check.is("CAPITAL of the house", x.ofVenture(0, -1, 0), due[due.length - 1]);
    }

    // "Begins a VENTURE without PARTNERS."
    private static void noPartners() {
        RibafreeHouse x = Check.withPeople(100);
        x.venture();
        for (int what = 0; what <= 2; what++) {
            Check.is("of 0", x.ofVenture(0, 0, what), 0);
            Check.is("of the house", x.ofVenture(0, -1, what), 0);
        }
        Check.is("a loss", x.result(0, -999, -2), 0);
        Check.is("borne by nobody", x.house(1), 10000);
        Check.is("a profit", x.result(0, 999, -2), 0);
        Check.is("the house has it", x.house(1), 10999);
        Check.is("the house has it", x.ofVenture(0, -1, 2), 999);
        Check.is("it is no partner", x.ofVenture(0, -1, 1), 0);
        Check.is("CASH of 0", x.ofPerson(0, 0), 100);
    }

    // "CAPITAL (paid in once, 1 to 999)."
    private static void leastAndMostCapital() {
        RibafreeHouse x = Check.withPeople(999, 1);
        x.venture();
        Check.is("join", x.join(0, 0, 999, 0), 0);
        Check.is("join", x.join(0, 1, 1, 0), 0);
        Check.is("join", x.join(0, -1, 999, 0), 0);
        Check.is("CASH of 0", x.ofPerson(0, 0), 0);
        Check.is("CASH of 1", x.ofPerson(1, 0), 0);
        Check.is("CASH of the house", x.house(1), 9001);
        Check.is("CAPITAL of all", x.result(0, 0, -2), 1999);
    }

    // "SHARES of all are 100 or less together."
    private static void sharesOfAll() {
        RibafreeHouse x = Check.withPeople(9, 9, 9, 9, 9, 9, 9, 9);
        x.venture();
        for (int person = 0; person < 8; person++) {
            Check.is("join", x.join(0, person, 1, 12), 12 * person + 12);
        }
        Check.fails("101", Check.STATE, x, () -> x.join(0, -1, 1, 5));
        Check.is("100", x.join(0, -1, 1, 4), 100);
        Check.is("isSound()", x.isSound(), true);
    }

    // "Each rounded down; what is left goes to the HOUSE."
    private static void profitOfOne() {
        RibafreeHouse x = Check.withPeople(10, 10);
        x.venture();
        x.join(0, 0, 1, 99);
        x.join(0, 1, 1, 1);
        Check.is("result", x.result(0, 1, -2), 2);
        Check.is("profit of 0", x.ofVenture(0, 0, 2), 0);
        Check.is("profit of 1", x.ofVenture(0, 1, 2), 0);
        Check.is("what is left", x.ofVenture(0, -1, 2), 1);
        Check.is("CASH of the house", x.house(1), 10001);
        x.result(0, 100, -2);
        Check.is("profit of 0", x.ofVenture(0, 0, 2), 99);
        Check.is("profit of 1", x.ofVenture(0, 1, 2), 1);
        Check.is("nothing is left", x.ofVenture(0, -1, 2), 1);
    }

    private static void profitToAll() {
        RibafreeHouse x = Check.withPeople(10);
        x.venture();
        x.join(0, 0, 1, 100);
        x.result(0, 1, -2);
        x.result(0, 999, -2);
        Check.is("profit of 0", x.ofVenture(0, 0, 2), 1000);
        Check.is("CASH of 0", x.ofPerson(0, 0), 1009);
        Check.is("nothing is left", x.ofVenture(0, -1, 2), 0);
        Check.is("CASH of the house", x.house(1), 10000);
    }

    private static void profitRoundedDown() {
        RibafreeHouse x = Check.withPeople(10, 10, 10);
        x.venture();
        x.join(0, 2, 1, 34);
        x.join(0, 0, 1, 33);
        x.join(0, 1, 1, 0);
        x.result(0, 5, -2);
        Check.is("profit of 0", x.ofVenture(0, 0, 2), 1);
        Check.is("profit of 1", x.ofVenture(0, 1, 2), 0);
        Check.is("profit of 2", x.ofVenture(0, 2, 2), 1);
        Check.is("what is left", x.ofVenture(0, -1, 2), 3);
        x.result(0, 999, -2);
        Check.is("profit of 0", x.ofVenture(0, 0, 2), 1 + 329);
        Check.is("profit of 2", x.ofVenture(0, 2, 2), 1 + 339);
        Check.is("what is left", x.ofVenture(0, -1, 2), 3 + 331);
        Check.is("CASH of 2", x.ofPerson(2, 0), 9 + 340);
    }

    // "What they leave is the HOUSE's (a partner or not)."
    private static void profitOfHouse() {
        RibafreeHouse x = Check.withPeople(10);
        x.venture();
        x.join(0, 0, 1, 30);
        x.result(0, 10, -2);
        Check.is("no partner", x.ofVenture(0, -1, 2), 7);
        x.join(0, -1, 1, 20);
        x.result(0, 10, -2);
        Check.is("a partner", x.ofVenture(0, -1, 2), 14);
        Check.is("profit of 0", x.ofVenture(0, 0, 2), 6);
        Check.is("CASH of the house", x.house(1), 10000 - 1 + 14);
    }

    private static void profitByShareNotCapital() {
        RibafreeHouse x = Check.withPeople(999, 999);
        x.venture();
        x.join(0, 0, 999, 1);
        x.join(0, 1, 1, 90);
        x.result(0, 100, -2);
        Check.is("profit of 0", x.ofVenture(0, 0, 2), 1);
        Check.is("profit of 1", x.ofVenture(0, 1, 2), 90);
        Check.is("CAPITAL stays", x.ofVenture(0, 0, 0), 999);
    }

    private static void resultOfNothing() {
        RibafreeHouse x = capitals(5, 7);
        Check.is("result", x.result(0, 0, -2), 12);
        Check.is("result", x.result(0, 0, 0), 12);
        Check.is("result", x.result(0, 0, -1), 12);
        are(x, 5, 7);
        Check.is("CASH of 0", x.ofPerson(0, 0), 995);
        Check.is("CASH of the house", x.house(1), 9993);
    }

    // "What is left of it by those with the smallest numbers, the HOUSE behind them, 1 each."
    private static void lossOfOne() {
        RibafreeHouse x = capitals(10, 10, 10);
        Check.is("result", x.result(0, -1, -2), 29);
        are(x, 9, 10, 10);
        RibafreeHouse house = capitals(1, 1);
        Check.is("result", house.result(0, -1, -2), 1);
        are(house, 0, 1);
        RibafreeHouse alone = new RibafreeHouse();
        alone.venture();
        alone.join(0, -1, 3, 0);
        Check.is("the house alone", alone.result(0, -1, -2), 2);
    }

    private static void lossOfEight() {
        int[][] rows = {{5, 0, 0, 0, 0, 0, 1, 1, 1, 1}, {7, 0, 0, 0, 0, 0, 0, 0, 1, 1},
            {8, 0, 0, 0, 0, 0, 0, 0, 0, 1}, {9, 0, 0, 0, 0, 0, 0, 0, 0, 0}};
        for (int[] row : rows) {
            RibafreeHouse x = capitals(1, 1, 1, 1, 1, 1, 1, 1, 1);
            Check.is("result", x.result(0, -row[0], -2), 9 - row[0]);
            are(x, row[1], row[2], row[3], row[4], row[5], row[6], row[7], row[8], row[9]);
        }
    }

    // "Less by loss * CAPITAL / CAPITAL of all (rounded down)."
    private static void lossOfCapital() {
        RibafreeHouse x = capitals(100, 300, 600);
        Check.is("result", x.result(0, -10, -2), 990);
        are(x, 99, 297, 594);
        // 9 * 99 / 990 is 0, 9 * 297 / 990 is 2, 9 * 594 / 990 is 5: 2 are left.
        Check.is("result", x.result(0, -9, -2), 981);
        are(x, 98, 294, 589);
        // 97, 293 and 588 are 978: 2 are left, and take from 0 and 1 what they have still.
        Check.is("result", x.result(0, -980, -2), 1);
        are(x, 0, 0, 1);
    }

    private static void lossByCapitalNotShare() {
        RibafreeHouse x = Check.withPeople(100, 100);
        x.venture();
        x.join(0, 0, 10, 90);
        x.join(0, 1, 90, 10);
        Check.is("result", x.result(0, -50, -2), 50);
        are(x, 5, 45, 0);
        Check.is("CASH of 0", x.ofPerson(0, 0), 90);
        Check.is("CASH of 1", x.ofPerson(1, 0), 10);
        Check.is("CASH of the house", x.house(1), 10000);
        Check.is("no profit", x.ofVenture(0, 0, 2), 0);
    }

    private static void lossInOrderOfNumbers() {
        RibafreeHouse x = Check.withPeople(10, 10, 10, 10);
        x.venture();
        x.join(0, -1, 5, 0);
        x.join(0, 3, 5, 0);
        x.join(0, 1, 5, 0);
        Check.is("result", x.result(0, -2, -2), 13);
        are(x, 0, 4, 0, 4, 5);
    }

    // "As far as they have CAPITAL."
    private static void lossPastThoseWithout() {
        RibafreeHouse x = capitals(5, 5, 5, 5);
        x.buyOut(0, 0, 1, 5);
        are(x, 0, 10, 5, 5);
        Check.is("result", x.result(0, -1, -2), 19);
        are(x, 0, 9, 5, 5);
        x.buyOut(0, 1, 2, 9);
        Check.is("result", x.result(0, -1, -2), 18);
        are(x, 0, 0, 13, 5);
        // 0, 49 and 49 are 98: 2 are left.
        RibafreeHouse other = capitals(1, 50, 50);
        Check.is("result", other.result(0, -100, -2), 1);
        are(other, 0, 0, 1);
    }

    private static void lossAgain() {
        RibafreeHouse x = capitals(4, 3, 2);
        int[][] rows = {{3, 3, 2}, {2, 3, 2}, {1, 3, 2}, {0, 3, 2}, {0, 2, 2}, {0, 1, 2},
            {0, 0, 2}, {0, 0, 1}, {0, 0, 0}, {0, 0, 0}};
        for (int loss = 0; loss < rows.length; loss++) {
            Check.is("result", x.result(0, -1, -2), Math.max(8 - loss, 0));
            are(x, rows[loss]);
        }
    }

    // "What of a loss is above CAPITAL of all is not borne by anybody."
    private static void lossAboveCapital() {
        for (int loss : new int[] {11, 12, 13, 999}) {
            RibafreeHouse x = capitals(3, 4, 5);
            Check.is("result", x.result(0, -loss, -2), Math.max(12 - loss, 0));
            are(x, 0, 0, loss == 11 ? 1 : 0);
            Check.is("CASH of 0", x.ofPerson(0, 0), 997);
            Check.is("CASH of 1", x.ofPerson(1, 0), 996);
            Check.is("CASH of the house", x.house(1), 9995);
            Check.is("a loss of nothing", x.result(0, -1, -2), 0);
        }
    }

    // "A loss is borne out of CASH of that one instead, all of it."
    private static void negligence() {
        RibafreeHouse x = capitals(3, 4, 5);
        Check.is("result", x.result(0, -999, 1), 12);
        are(x, 3, 4, 5);
        Check.is("CASH of 1", x.ofPerson(1, 0), -3);
        Check.is("CASH of 0", x.ofPerson(0, 0), 997);
        Check.is("CASH of the house", x.house(1), 9995);
        Check.is("result", x.result(0, -999, 1), 12);
        Check.is("CASH of 1", x.ofPerson(1, 0), -1002);
        Check.is("no profit", x.ofVenture(0, 1, 2), 0);
        Check.is("a profit all the same", x.result(0, 50, 1), 12);
        Check.is("to the house", x.ofVenture(0, -1, 2), 50);
        Check.is("CASH of 1", x.ofPerson(1, 0), -1002);
    }

    private static void negligenceOfHouse() {
        RibafreeHouse x = capitals(3, 4, 5);
        Check.is("result", x.result(0, -999, -1), 12);
        are(x, 3, 4, 5);
        Check.is("CASH of the house", x.house(1), 9995 - 999);
        Check.is("CASH of all", x.house(13), 2000 - 7);
        Check.is("no profit", x.ofVenture(0, -1, 2), 0);
    }

    private static void negligenceWithoutCapital() {
        RibafreeHouse x = capitals(3, 5);
        x.result(0, -8, -2);
        Check.is("result", x.result(0, -7, 0), 0);
        Check.is("CASH of 0", x.ofPerson(0, 0), 997 - 7);
        Check.is("result", x.result(0, -7, -1), 0);
        Check.is("CASH of the house", x.house(1), 9995 - 7);
    }

    // "A PARTNER without CAPITAL is one still."
    private static void partnerWithoutCapital() {
        RibafreeHouse x = Check.withPeople(100, 100);
        x.venture();
        x.join(0, 0, 5, 40);
        x.join(0, 1, 5, 10);
        x.result(0, -10, -2);
        x.result(0, 10, -2);
        Check.is("profit of 0", x.ofVenture(0, 0, 2), 4);
        Check.is("SHARE of 0", x.ofVenture(0, 0, 1), 40);
        Check.fails("join again", Check.STATE, x, () -> x.join(0, 0, 1, 1));
        Check.fails("no capital to buy", Check.STATE, x, () -> x.buyOut(0, 0, 1, 1));
        Check.is("SHARES with the house", x.join(0, -1, 9, 50), 100);
        Check.is("it can pay for some", x.buyOut(0, -1, 0, 4), 5);
        Check.is("CAPITAL of 0", x.ofVenture(0, 0, 0), 4);
        Check.is("CAPITAL in all", x.ofPerson(0, 7), 4);
    }

    // "1 for 1; SHARES do not change."
    private static void boughtOut() {
        RibafreeHouse x = Check.withPeople(100, 100);
        x.venture();
        x.join(0, 0, 60, 10);
        x.join(0, 1, 40, 20);
        Check.is("the least", x.buyOut(0, 0, 1, 1), 59);
        Check.is("all that is left", x.buyOut(0, 0, 1, 59), 0);
        are(x, 0, 100, 0);
        Check.is("CASH of 0", x.ofPerson(0, 0), 100);
        Check.is("CASH of 1", x.ofPerson(1, 0), 0);
        Check.is("SHARE of 0", x.ofVenture(0, 0, 1), 10);
        Check.is("SHARE of 1", x.ofVenture(0, 1, 1), 20);
        x.result(0, 100, -2);
        Check.is("profit by SHARES", x.ofVenture(0, 0, 2), 10);
        Check.is("CASH of the house", x.house(1), 10070);
    }

    // What is bought can be together above what is paid in at once.
    private static void boughtAboveMost() {
        RibafreeHouse x = Check.withPeople(999, 999, 9999);
        x.venture();
        x.join(0, 0, 999, 0);
        x.join(0, 1, 999, 0);
        x.join(0, 2, 999, 0);
        Check.is("all of 0", x.buyOut(0, 0, 2, 999), 0);
        Check.is("all of 1", x.buyOut(0, 1, 2, 999), 0);
        are(x, 0, 0, 2997, 0);
        Check.is("CASH of 2", x.ofPerson(2, 0), 9999 - 2997);
        Check.is("a great loss", x.result(0, -999, -2), 1998);
        Check.is("sold again", x.buyOut(0, 2, 0, 999), 999);
    }

    private static void eachForItself() {
        RibafreeHouse x = Check.withPeople(100);
        x.venture();
        x.venture();
        x.join(0, 0, 10, 50);
        x.join(1, 0, 20, 60);
        x.result(0, 10, -2);
        x.result(1, -5, -2);
        Check.is("CAPITAL", x.ofVenture(0, 0, 0), 10);
        Check.is("CAPITAL", x.ofVenture(1, 0, 0), 15);
        Check.is("profit", x.ofVenture(0, 0, 2), 5);
        Check.is("profit", x.ofVenture(1, 0, 2), 0);
        Check.is("the house", x.ofVenture(0, -1, 2), 5);
        Check.is("the house", x.ofVenture(1, -1, 2), 0);
        Check.is("CAPITAL in all", x.ofPerson(0, 7), 25);
    }
}
