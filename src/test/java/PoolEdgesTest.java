/** Section 5, sentence by sentence: DEPOSITS, WEIGHTS, MANAGEMENT, TARGET, RESERVE, the most. */
public final class PoolEdgesTest {
    public static void main(String[] args) {
        paidInAndBack();
        weightOfEachDay();
        weightOfNoDay();
        weightOfManyDays();
        weightWithoutDeposit();
        sharedRoundedDown();
        sharedWithoutWeight();
        weightsAnew();
        management();
        atFirst();
        targets();
        reserveByQuestion();
        reserveStays();
        fromNowOn();
        mostOfDeposit();
        greatWeights();
        wouldAndDoes();
        wouldByQuestion();
        Check.end();
    }

    /** A POOL without a RESERVE, where all of a profit is shared. */
    private static RibafreeHouse plain(int... cash) {
        RibafreeHouse x = Check.withPeople(cash);
        Check.forbid(x, 4);
        return x;
    }

    // "Paid out of CASH, drawn back into CASH."
    private static void paidInAndBack() {
        RibafreeHouse x = Check.withPeople(9999, 3);
        Check.is("the least", x.deposit(0, 1), 1);
        Check.is("the most", x.deposit(0, 9998), 9999);
        Check.is("CASH of 0", x.ofPerson(0, 0), 0);
        Check.is("DEPOSITS together", x.house(4), 9999);
        Check.is("another one", x.deposit(1, 3), 3);
        Check.is("DEPOSITS together", x.house(4), 10002);
        Check.is("the least back", x.deposit(0, -1), 9998);
        Check.is("all back", x.deposit(0, -9998), 0);
        Check.is("CASH of 0", x.ofPerson(0, 0), 9999);
        Check.is("DEPOSITS together", x.house(4), 3);
        Check.is("CASH of the house", x.house(1), 10000);
        Check.is("CASH of 1", x.ofPerson(1, 0), 0);
    }

    // "For each DAY that ended: what was in as it ended."
    private static void weightOfEachDay() {
        RibafreeHouse x = plain(100);
        int[] amount = {10, 5, -15, 1, -1, 90, -89};
        int weight = 0;
        int deposit = 0;
        for (int each : amount) {
            deposit += each;
            x.deposit(0, each);
            Check.is("WEIGHT", x.ofPerson(0, 3), weight);
            x.pass(1);
            weight += deposit;
            Check.is("WEIGHT, a day on", x.ofPerson(0, 3), weight);
        }
        Check.is("the last one", x.ofPerson(0, 3), 10 + 15 + 0 + 1 + 0 + 90 + 1);
    }

    private static void weightOfNoDay() {
        RibafreeHouse x = plain(100, 100);
        x.pass(3);
        x.deposit(0, 50);
        x.deposit(0, -50);
        x.deposit(0, 20);
        Check.is("WEIGHT", x.ofPerson(0, 3), 0);
        Check.is("in on this day only", x.share(10, 0, 0), 0);
        Check.is("CHARITY", x.house(2), 10);
        x.pass(1);
        Check.is("what was in as it ended", x.ofPerson(0, 3), 20);
        x.deposit(1, 100);
        Check.is("all to 0", x.share(10, 0, 0), 10);
        Check.is("DEPOSIT of 0", x.ofPerson(0, 2), 30);
        Check.is("DEPOSIT of 1", x.ofPerson(1, 2), 100);
    }

    private static void weightOfManyDays() {
        RibafreeHouse x = plain(9999);
        x.deposit(0, 9999);
        x.pass(400);
        Check.is("WEIGHT", x.ofPerson(0, 3), 9999 * 400);
        Check.passTo(x, 4000);
        Check.is("WEIGHT", x.ofPerson(0, 3), 9999 * 4000);
    }

    // "Each DEPOSIT is greater (also one of 0), by WEIGHT."
    private static void weightWithoutDeposit() {
        RibafreeHouse x = plain(100, 100, 100);
        x.deposit(0, 10);
        x.deposit(1, 30);
        x.pass(1);
        x.deposit(0, -10);
        x.deposit(1, -30);
        x.deposit(2, 100);
        Check.is("share", x.share(80, 0, 0), 80);
        Check.is("DEPOSIT of 0", x.ofPerson(0, 2), 20);
        Check.is("DEPOSIT of 1", x.ofPerson(1, 2), 60);
        Check.is("DEPOSIT of 2", x.ofPerson(2, 2), 100);
        Check.is("CHARITY", x.house(2), 0);
    }

    // "Rounded down; what is left goes to CHARITY."
    private static void sharedRoundedDown() {
        int[][] rows = {{0, 0, 0}, {2, 0, 2}, {3, 1, 0}, {5, 1, 2}, {100, 33, 1},
            {9999, 3333, 0}, {9998, 3332, 2}};
        for (int[] row : rows) {
            RibafreeHouse x = plain(10, 10, 10);
            for (int person = 0; person < 3; person++) {
                x.deposit(person, 7);
            }
            x.pass(5);
            Check.is("share of " + row[0], x.share(row[0], 0, 0), 3 * row[1]);
            for (int person = 0; person < 3; person++) {
                Check.is("DEPOSIT", x.ofPerson(person, 2), 7 + row[1]);
                Check.is("CASH", x.ofPerson(person, 0), 3);
            }
            Check.is("CHARITY", x.house(2), row[2]);
            Check.is("CASH of the house", x.house(1), 10000);
        }
    }

    // "All of it, if there is no WEIGHT."
    private static void sharedWithoutWeight() {
        RibafreeHouse x = plain(10);
        Check.is("no deposit", x.share(9999, 0, 1), 0);
        Check.is("CHARITY", x.house(2), 9900);
        Check.is("MANAGEMENT all the same", x.house(1), 10099);
        x.deposit(0, 10);
        Check.is("no day", x.share(7, 0, 0), 0);
        Check.is("CHARITY", x.house(2), 9907);
        Check.is("nothing", x.share(0, 0, 0), 0);
        Check.is("CHARITY", x.house(2), 9907);
        RibafreeHouse kept = Check.withPeople(10);
        kept.share(50, 0, 0);
        Check.is("the reserve goes there too", kept.share(0, 30, 0), 0);
        Check.is("CHARITY", kept.house(2), 30);
        Check.is("RESERVE", kept.house(3), 20);
    }

    // "WEIGHTS begin anew."
    private static void weightsAnew() {
        RibafreeHouse x = plain(100, 100);
        x.deposit(0, 90);
        x.pass(10);
        x.share(0, 0, 0);
        Check.is("after a sharing of nothing", x.ofPerson(0, 3), 0);
        x.deposit(0, -80);
        x.deposit(1, 10);
        x.pass(1);
        Check.is("WEIGHT of 0", x.ofPerson(0, 3), 10);
        Check.is("both the same", x.share(40, 0, 0), 40);
        Check.is("DEPOSIT of 0", x.ofPerson(0, 2), 30);
        Check.is("DEPOSIT of 1", x.ofPerson(1, 2), 30);
        Check.is("twice on a day", x.share(40, 0, 0), 0);
        Check.is("CHARITY", x.house(2), 40);
        x.pass(1);
        Check.is("what was shared weighs too", x.ofPerson(0, 3), 30);
    }

    // "The HOUSE has MANAGEMENT (0 to 50 hundredths; 20 at first) of it as CASH."
    private static void management() {
        int[][] rows = {{0, 50, 0}, {1, 50, 0}, {2, 50, 1}, {9999, 50, 4999}, {99, 1, 0},
            {100, 1, 1}, {199, 1, 1}, {9999, 1, 99}, {9999, 0, 0}, {199, 20, 39}, {9999, 49, 4899}};
        for (int[] row : rows) {
            RibafreeHouse x = plain(10);
            x.deposit(0, 1);
            x.pass(1);
            Check.is("share", x.share(row[0], 0, row[1]), row[0] - row[2]);
            Check.is("CASH of the house", x.house(1), 10000 + row[2]);
            Check.is("CHARITY", x.house(2), 0);
            Check.is("RESERVE", x.house(3), 0);
            Check.is("MANAGEMENT", x.house(15), row[1]);
        }
    }

    // "20 at first", "100 at first".
    private static void atFirst() {
        RibafreeHouse x = Check.withPeople(10);
        x.deposit(0, 10);
        x.pass(1);
        Check.is("TARGET", x.house(14), 100);
        Check.is("MANAGEMENT", x.house(15), 20);
        int[][] rows = {{0, 0}, {1, 1}, {4, 4}, {5, 4}, {123, 99}, {124, 100}, {125, 100},
            {126, 100}, {9999, 100}};
        for (int[] row : rows) {
            Check.is("of a profit of " + row[0], x.wouldShare(row[0], 0), row[1]);
        }
    }

    // "What is above TARGET of the rest goes to the RESERVE, or, if the rest is below TARGET, so
    // much of the RESERVE comes to it that it is TARGET (as far as the RESERVE has it)."
    private static void targets() {
        // The rest, TARGET, the RESERVE before; what is shared, the RESERVE then.
        int[][] rows = {{100, 100, 0, 100, 0}, {101, 100, 0, 100, 1}, {99, 100, 0, 99, 0},
            {99, 100, 1, 100, 0}, {98, 100, 1, 99, 0}, {50, 100, 80, 100, 30},
            {50, 100, 50, 100, 0}, {50, 100, 49, 99, 0}, {0, 100, 40, 40, 0}, {0, 0, 40, 0, 40},
            {5, 0, 0, 0, 5}, {5, 0, 7, 0, 12}, {1000, 999, 0, 999, 1}, {999, 999, 5, 999, 5},
            {0, 999, 999, 999, 0}, {0, 999, 1000, 999, 1}, {0, 999, 998, 998, 0},
            {0, 999, 0, 0, 0}, {9999, 999, 9999, 999, 18999}, {9999, 0, 0, 0, 9999}};
        for (int[] row : rows) {
            RibafreeHouse x = Check.withPeople(10);
            Check.is("all to the RESERVE", x.share(row[2], 0, 0), 0);
            Check.is("RESERVE", x.house(3), row[2]);
            x.deposit(0, 10);
            x.pass(1);
            String call = "share of " + row[0] + " by " + row[1] + " and " + row[2];
            Check.is(call, x.share(row[0], row[1], 0), row[3]);
            Check.is("RESERVE", x.house(3), row[4]);
            Check.is("DEPOSIT", x.ofPerson(0, 2), 10 + row[3]);
            Check.is("CHARITY", x.house(2), 0);
            Check.is("CASH of the house", x.house(1), 10000);
            Check.is("TARGET", x.house(14), row[1]);
            Check.is("isSound()", x.isSound(), true);
        }
    }

    // "If QUESTION 4 is ALLOWED."
    private static void reserveByQuestion() {
        for (int question = 0; question < 5; question++) {
            RibafreeHouse x = Check.withPeople(10);
            x.deposit(0, 10);
            x.pass(1);
            Check.forbid(x, question);
            boolean isKept = question != 4;
            Check.is("QUESTION " + question, x.share(100, 30, 0), isKept ? 30 : 100);
            Check.is("RESERVE", x.house(3), isKept ? 70 : 0);
        }
        RibafreeHouse x = Check.withPeople(10);
        x.deposit(0, 10);
        x.pass(1);
        Check.forbid(x, 4);
        x.hold(0, 4, true);
        Check.is("three are for it", x.share(100, 30, 0), 30);
        x.hold(0, 4, false);
        x.pass(1);
        Check.is("two are for it", x.share(100, 30, 0), 100);
        x.pass(1);
        x.hold(0, 4, true);
        Check.is("three on this day", x.share(0, 30, 0), 30);
    }

    private static void reserveStays() {
        RibafreeHouse x = Check.withPeople(10);
        x.share(60, 10, 0);
        Check.is("RESERVE", x.house(3), 50);
        Check.forbid(x, 4);
        x.deposit(0, 10);
        x.pass(1);
        Check.is("below target", x.share(5, 999, 0), 5);
        Check.is("RESERVE", x.house(3), 50);
        x.pass(1);
        Check.is("above target", x.share(500, 0, 0), 500);
        Check.is("RESERVE", x.house(3), 50);
    }

    // "TARGET from now on (it holds for this one)."
    private static void fromNowOn() {
        RibafreeHouse x = Check.withPeople(10);
        x.deposit(0, 10);
        x.pass(1);
        Check.is("it holds for this one", x.share(500, 300, 10), 300);
        x.pass(1);
        Check.is("and from now on", x.wouldShare(200, 0), 300);
        Check.is("and from now on", x.wouldShare(0, 0), 150);
        Check.forbid(x, 4);
        Check.is("9 tenths", x.wouldShare(200, 0), 180);
        Check.fails("refused", Check.ARGUMENT, x, () -> x.share(10000, 1, 1));
        Check.fails("refused", Check.ARGUMENT, x, () -> x.share(0, 1, 51));
        Check.is("TARGET stays", x.house(14), 300);
        Check.is("MANAGEMENT stays", x.house(15), 10);
    }

    // "And so that it is 99999 at most; what is left goes to CHARITY."
    private static void mostOfDeposit() {
        RibafreeHouse x = plain(9999, 100);
        x.deposit(0, 9);
        for (int time = 0; time < 10; time++) {
            x.pass(1);
            x.share(time < 9 ? 9999 : 9990, 0, 0);
        }
        Check.is("DEPOSIT", x.ofPerson(0, 2), 99990);
        x.pass(1);
        Check.is("9 fit in", x.wouldShare(9, 0), 9);
        Check.is("10 do not", x.wouldShare(10, 0), 9);
        Check.is("CHARITY", x.house(2), 0);
        Check.is("share", x.share(30, 0, 0), 9);
        Check.is("DEPOSIT", x.ofPerson(0, 2), 99999);
        Check.is("CHARITY", x.house(2), 21);
        x.deposit(1, 100);
        x.pass(1);
        Check.is("nothing fits in", x.wouldShare(9999, 0), 0);
        Check.is("another one's is no greater for it", x.wouldShare(9999, 1), 9);
        Check.is("share", x.share(9999, 0, 0), 9);
        Check.is("DEPOSIT of 0", x.ofPerson(0, 2), 99999);
        Check.is("DEPOSIT of 1", x.ofPerson(1, 2), 109);
        Check.is("CHARITY", x.house(2), 21 + 9990);
        Check.is("isSound()", x.isSound(), true);
    }

    // Eight WEIGHTS of the most are together more than 32 bits hold.
    private static void greatWeights() {
        RibafreeHouse x = plain(9999, 9999, 9999, 9999, 9999, 9999, 9999, 9999);
        for (int person = 0; person < 8; person++) {
            x.deposit(person, 9999);
        }
        for (int time = 0; time < 73; time++) {
            x.pass(1);
            x.share(9999, 0, 0);
        }
        Check.is("DEPOSITS together", x.house(4), 8 * 99999);
        Check.is("CHARITY", x.house(2), 72 * 7 + 9999 - 8 * 72);
        for (int time = 0; time < 9; time++) {
            x.pass(400);
        }
        Check.is("WEIGHT", x.ofPerson(7, 3), 99999 * 3600);
        int charity = x.house(2);
        for (int person = 0; person < 8; person++) {
            Check.is("nothing fits in", x.wouldShare(9999, person), 0);
            x.deposit(person, -9999);
            Check.is("an eighth", x.wouldShare(9999, person), 1249);
        }
        Check.is("share", x.share(9999, 0, 0), 8 * 1249);
        Check.is("CHARITY", x.house(2), charity + 7);
        Check.is("DEPOSITS together", x.house(4), 8 * (90000 + 1249));
        Check.is("isSound()", x.isSound(), true);
    }

    // wouldShare() tells what share() does then, and changes nothing.
    private static void wouldAndDoes() {
        int[] profits = {0, 1, 7, 99, 250, 1000, 9999};
        RibafreeHouse x = Check.withPeople(100, 200, 300, 400);
        x.deposit(0, 1);
        x.deposit(1, 33);
        x.deposit(2, 299);
        for (int profit : profits) {
            x.pass(2);
            int[] due = new int[4];
            int together = 0;
            for (int person = 0; person < 4; person++) {
                due[person] = x.ofPerson(person, 2) + x.wouldShare(profit, person);
                together += x.wouldShare(profit, person);
            }
            int target = x.house(14);
            int management = x.house(15);
            Check.is("share of " + profit, x.share(profit, target, management), together);
            for (int person = 0; person < 4; person++) {
                Check.is("DEPOSIT", x.ofPerson(person, 2), due[person]);
            }
        }
    }

    private static void wouldByQuestion() {
        RibafreeHouse x = Check.withPeople(10);
        x.deposit(0, 10);
        x.share(500, 0, 0);
        x.pass(1);
        x.share(0, 50, 50);
        x.pass(1);
        Check.is("TARGET", x.wouldShare(0, 0), 50);
        Check.is("TARGET", x.wouldShare(9999, 0), 50);
        Check.forbid(x, 4);
        Check.is("all that there is", x.wouldShare(0, 0), 0);
        Check.is("all that there is", x.wouldShare(9999, 0), 5000);
        x.hold(1, 4, true);
        Check.is("TARGET", x.wouldShare(9999, 0), 50);
        Check.is("RESERVE stays", x.house(3), 450);
        Check.is("CASH of the house", x.house(1), 10000);
    }
}
