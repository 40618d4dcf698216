/** Promises 17, 18 and 34: deposit, share, wouldShare. */
public final class PoolTest {
    public static void main(String[] args) {
        deposits();
        wrongDeposits();
        weights();
        reserve();
        withoutReserve();
        ceilings();
        wrongShares();
        wouldBe();
        Check.end();
    }

    private static void deposits() {
        RibafreeHouse x = Check.withPeople(9999, 5);
        Check.is("deposit", x.deposit(0, 9999), 9999);
        Check.is("CASH", x.ofPerson(0, 0), 0);
        Check.is("deposit", x.deposit(0, -9999), 0);
        Check.is("CASH", x.ofPerson(0, 0), 9999);
        Check.is("deposit", x.deposit(0, 100), 100);
        Check.is("deposit", x.deposit(1, 5), 5);
        Check.is("deposit", x.deposit(0, -1), 99);
        Check.is("DEPOSIT", x.ofPerson(0, 2), 99);
        Check.is("DEPOSITS together", x.house(4), 104);
        Check.is("CASH of the house", x.house(1), 10000);
    }

    private static void wrongDeposits() {
        RibafreeHouse x = Check.withPeople(9999, 5);
        Check.fails("deposit", Check.INDEX, x, () -> x.deposit(-1, 1));
        Check.fails("deposit", Check.INDEX, x, () -> x.deposit(2, 0));
        Check.fails("deposit", Check.ARGUMENT, x, () -> x.deposit(0, 0));
        Check.fails("deposit", Check.ARGUMENT, x, () -> x.deposit(0, 10000));
        Check.fails("deposit", Check.ARGUMENT, x, () -> x.deposit(0, -10000));
        Check.fails("deposit, short of cash", Check.STATE, x, () -> x.deposit(1, 6));
        x.deposit(0, 10);
        Check.fails("deposit, too much back", Check.STATE, x, () -> x.deposit(0, -11));
        Check.fails("deposit", Check.ARGUMENT, x, () -> x.deposit(0, Integer.MIN_VALUE));
        x.thing(200, -1);
        x.buy(0);
        x.sell(0, 1, 0, 1);
        x.deposit(1, 5);
        x.pay(0);
        Check.is("CASH below 0", x.ofPerson(1, 0), -200);
        Check.is("drawn back all the same", x.deposit(1, -5), 0);
        Check.is("CASH below 0", x.ofPerson(1, 0), -195);
        Check.fails("deposit out of less than 0", Check.STATE, x, () -> x.deposit(1, 1));
    }

    private static void weights() {
        RibafreeHouse x = Check.withPeople(1000, 1000, 1000);
        x.deposit(0, 100);
        Check.is("WEIGHT", x.ofPerson(0, 3), 0);
        x.pass(3);
        Check.is("WEIGHT", x.ofPerson(0, 3), 300);
        x.deposit(0, -100);
        x.deposit(1, 50);
        x.pass(2);
        Check.is("WEIGHT stays", x.ofPerson(0, 3), 300);
        Check.is("WEIGHT of what was in as it ended", x.ofPerson(1, 3), 100);
        Check.forbid(x, 4);
        // 30 of 41 is left; 300 of 400 of it is 22, 100 of 400 is 7; 1 goes to charity.
        Check.is("share", x.share(41, 0, 28), 29);
        Check.is("a deposit of 0 too", x.ofPerson(0, 2), 22);
        Check.is("DEPOSIT", x.ofPerson(1, 2), 57);
        Check.is("DEPOSIT without weight", x.ofPerson(2, 2), 0);
        Check.is("CHARITY", x.house(2), 1);
        Check.is("MANAGEMENT had 11", x.house(1), 10011);
        Check.is("WEIGHTS begin anew", x.ofPerson(0, 3) + x.ofPerson(1, 3), 0);
        Check.is("without weight", x.share(50, 0, 0), 0);
        Check.is("CHARITY", x.house(2), 51);
        RibafreeHouse least = Check.withPeople(1, 1);
        least.deposit(1, 1);
        least.pass(1);
        Check.is("a weight of 1", least.share(100, 70, 0), 70);
        Check.is("DEPOSIT", least.ofPerson(1, 2), 71);
    }

    private static void reserve() {
        RibafreeHouse x = Check.withPeople(1000);
        x.deposit(0, 1000);
        x.pass(1);
        Check.is("above target", x.share(200, 60, 50), 60);
        Check.is("RESERVE", x.house(3), 40);
        Check.is("TARGET", x.house(14), 60);
        Check.is("MANAGEMENT", x.house(15), 50);
        Check.is("CASH of the house", x.house(1), 10100);
        x.pass(1);
        Check.is("below target", x.share(50, 60, 0), 60);
        Check.is("RESERVE", x.house(3), 30);
        x.pass(1);
        Check.is("as far as there is a reserve", x.share(10, 60, 0), 40);
        Check.is("RESERVE", x.house(3), 0);
        x.pass(1);
        Check.is("just the target", x.share(60, 60, 0), 60);
        Check.is("RESERVE", x.house(3), 0);
        Check.is("all to the reserve", x.share(9999, 0, 0), 0);
        Check.is("RESERVE", x.house(3), 9999);
        Check.is("out of the reserve to charity", x.share(0, 999, 0), 0);
        Check.is("CHARITY", x.house(2), 999);
        Check.is("RESERVE", x.house(3), 9000);
        Check.is("isSound()", x.isSound(), true);
    }

    private static void withoutReserve() {
        RibafreeHouse x = Check.withPeople(1000);
        x.deposit(0, 10);
        x.share(300, 100, 0);
        Check.is("RESERVE", x.house(3), 200);
        Check.forbid(x, 4);
        x.pass(1);
        Check.is("all is shared", x.share(9999, 999, 1), 9900);
        x.pass(1);
        Check.is("nothing comes to it", x.share(10, 999, 20), 8);
        Check.is("RESERVE", x.house(3), 200);
        x.hold(0, 4, true);
        x.pass(1);
        Check.is("allowed again", x.share(10, 100, 0), 100);
        Check.is("RESERVE", x.house(3), 110);
    }

    private static void ceilings() {
        RibafreeHouse x = Check.withPeople(9999, 1);
        Check.forbid(x, 4);
        x.deposit(0, 9999);
        x.deposit(1, 1);
        for (int time = 0; time < 9; time++) {
            x.pass(400);
            x.share(9999, 0, 0);
        }
        int before = x.ofPerson(0, 2);
        int room = 99999 - before;
        Check.is("near the most", before > 99000 - 9999, true);
        int charity = x.house(2);
        x.pass(400);
        Check.is("wouldShare", x.wouldShare(9999, 0), room);
        int other = x.wouldShare(9999, 1);
        Check.is("share", x.share(9999, 0, 0), room + other);
        Check.is("DEPOSIT", x.ofPerson(0, 2), 99999);
        Check.is("CHARITY has the rest", x.house(2), charity + 9999 - room - other);
        Check.fails("deposit above the most", Check.ARGUMENT, x, () -> x.deposit(0, 10000));
        x.deposit(0, -20);
        Check.is("deposit", x.deposit(0, 15), 99994);
        Check.fails("deposit above the most", Check.STATE, x, () -> x.deposit(0, 6));
        Check.is("deposit", x.deposit(0, 5), 99999);
    }

    private static void wrongShares() {
        RibafreeHouse x = Check.withPeople(9);
        Check.fails("share", Check.ARGUMENT, x, () -> x.share(-1, 0, 0));
        Check.fails("share", Check.ARGUMENT, x, () -> x.share(10000, 0, 0));
        Check.fails("share", Check.ARGUMENT, x, () -> x.share(0, -1, 0));
        Check.fails("share", Check.ARGUMENT, x, () -> x.share(0, 1000, 0));
        Check.fails("share", Check.ARGUMENT, x, () -> x.share(0, 0, -1));
        Check.fails("share", Check.ARGUMENT, x, () -> x.share(0, 0, 51));
        Check.is("TARGET", x.house(14), 100);
        Check.is("MANAGEMENT", x.house(15), 20);
    }

    private static void wouldBe() {
        RibafreeHouse x = Check.withPeople(100, 100);
        x.deposit(0, 30);
        x.deposit(1, 60);
        x.pass(1);
        Check.fails("wouldShare", Check.INDEX, x, () -> x.wouldShare(-1, -1));
        Check.fails("wouldShare", Check.INDEX, x, () -> x.wouldShare(0, 2));
        Check.fails("wouldShare", Check.ARGUMENT, x, () -> x.wouldShare(-1, 0));
        Check.fails("wouldShare", Check.ARGUMENT, x, () -> x.wouldShare(10000, 0));
        long before = x.digest();
        Check.is("20 hundredths, a target of 100", x.wouldShare(9999, 0), 33);
        Check.is("20 hundredths, a target of 100", x.wouldShare(9999, 1), 66);
        Check.is("40 of 50", x.wouldShare(50, 0), 13);
        Check.is("nothing changed", x.digest(), before);
        x.share(200, 10, 50);
        Check.is("no weight", x.wouldShare(9999, 0), 0);
        x.pass(1);
        // 10 come out of the reserve, 33 of 99 of them go to 0.
        Check.is("with the reserve", x.wouldShare(0, 0), 3);
        Check.forbid(x, 4);
        Check.is("without the reserve", x.wouldShare(0, 0), 0);
        Check.is("half of 99", x.wouldShare(99, 0), 16);
    }
}
