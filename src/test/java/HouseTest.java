/** Promises 23, 30, 35 and 36: ofPerson, house, isSound, digest. */
public final class HouseTest {
    public static void main(String[] args) {
        person();
        wrongPerson();
        house();
        digest();
        digestOfFirms();
        fullHouse();
        Check.end();
    }

    /** A bit of everything, with something to tell in every answer. */
    private static RibafreeHouse busy() {
        RibafreeHouse x = Check.withPeople(900, 800, 700);
        for (int thing = 0; thing < 5; thing++) {
            x.thing(100 + thing, thing == 4 ? 0 : -1);
        }
        for (int thing = 0; thing < 4; thing++) {
            x.buy(thing);
        }
        x.take(2);
        x.take(3);
        x.sell(0, 0, 20, 3);
        x.sell(1, 0, 0, 1);
        x.sell(1, 0, 0, 1);
        x.lease(2, 0, 0, 99);
        x.lease(3, 0, 0, 99);
        x.venture();
        x.venture();
        x.join(0, 0, 10, 40);
        x.join(1, 0, 20, 10);
        x.join(1, -1, 5, 0);
        x.deposit(0, 70);
        x.deposit(1, 7);
        x.firm(100, 0, 0, 5, 10, 3);
        x.firm(100, 0, 0, 0, 20, 5);
        x.invest(2);
        x.pass(45);
        x.pay(0);
        x.pay(1);
        x.end(1, true);
        x.result(0, 50, -2);
        x.share(500, 90, 10);
        x.pass(2);
        return x;
    }

    private static void person() {
        RibafreeHouse x = busy();
        // 900, less 10 and 20 of capital, 70 of deposit, two rents of 1, parts of 40 with a fee of
        // 1 and of 101 with a fee of 2; and 20 of the profit.
        int cash = 900 - 10 - 20 - 70 - 2 - 41 - 103 + 20;
        // Thing 0 and 1 were sold to 0, thing 3 was given, thing 4 was its own.
        // 70 * 45 of 77 * 45 of 90 is 81, which is in for two days then.
        int[] due = {cash, 4, 151, 302, 2, 80, 1, 30};
        for (int what = 0; what < due.length; what++) {
            Check.is("ofPerson(0, " + what + ")", x.ofPerson(0, what), due[what]);
        }
        int[] other = {793, 0, 15, 30, 0, 0, 0, 0};
        for (int what = 0; what < other.length; what++) {
            Check.is("ofPerson(1, " + what + ")", x.ofPerson(1, what), other[what]);
        }
    }

    private static void wrongPerson() {
        RibafreeHouse x = Check.withPeople(1);
        Check.fails("ofPerson", Check.INDEX, x, () -> x.ofPerson(-1, 0));
        Check.fails("ofPerson", Check.INDEX, x, () -> x.ofPerson(1, 8));
        Check.fails("ofPerson", Check.ARGUMENT, x, () -> x.ofPerson(0, -1));
        Check.fails("ofPerson", Check.ARGUMENT, x, () -> x.ofPerson(0, 8));
    }

    private static void house() {
        RibafreeHouse x = busy();
        int cash = 10000 - 406 - 5 - 20 + 2 + 40 + 101 + 30 + 50;
        int people = x.ofPerson(0, 0) + x.ofPerson(1, 0) + x.ofPerson(2, 0);
        int[] due = {47, cash, 3 + 1, 360, 166, 10, 3, 1, 1, 1, 2, 2, 1, people, 90, 10};
        for (int what = 0; what < due.length; what++) {
            Check.is("house(" + what + ")", x.house(what), due[what]);
        }
        Check.fails("house", Check.ARGUMENT, x, () -> x.house(-1));
        Check.fails("house", Check.ARGUMENT, x, () -> x.house(16));
        Check.is("isSound()", x.isSound(), true);
        Check.is("isSound() of a new one", new RibafreeHouse().isSound(), true);
    }

    private static void digest() {
        Made made = () -> {
            RibafreeHouse x = busy();
            Check.forbid(x, 2);
            return x;
        };
        RibafreeHouse x = made.house();
        Check.is("digest", x.digest(), digestByQuestions(made));
        Check.is("asking twice", x.digest(), x.digest());
        long fresh = new RibafreeHouse().digest();
        Check.is("digest of a new one", fresh, digestByQuestions(RibafreeHouse::new));
    }

    private static RibafreeHouse threeFirms() {
        RibafreeHouse x = new RibafreeHouse();
        x.firm(1, 0, 0, 0, 99, 10);
        x.firm(1, 0, 0, 0, 1, 5);
        x.firm(1, 0, 0, 0, 2, 7);
        return x;
    }

    private static void digestOfFirms() {
        RibafreeHouse x = threeFirms();
        Check.is("best of 99", x.best(99, false), 12);
        Check.is("best of 100", x.best(100, false), 15);
        Check.is("best of 101", x.best(101, false), 17);
        Check.is("digest", x.digest(), digestByQuestions(HouseTest::threeFirms));
    }

    /** As many of all as there can be. */
    private static RibafreeHouse full() {
        RibafreeHouse x = Check.withPeople(8999, 8999, 8999, 8999, 8999, 8999, 8999, 9999);
        for (int thing = 0; thing < 16; thing++) {
            x.thing(10, thing % 8);
            x.buy(thing);
            x.take(thing);
        }
        for (int sale = 0; sale < 12; sale++) {
            x.sell(sale < 8 ? sale : 0, sale % 7 + 1, 50, 12);
        }
        for (int lease = 0; lease < 8; lease++) {
            x.lease(lease + 8, lease % 3, 99, 99);
        }
        for (int firm = 0; firm < 10; firm++) {
            x.firm(999, 0, 0, 0, 10 + firm, 9);
        }
        for (int venture = 0; venture < 6; venture++) {
            x.venture();
            for (int person = -1; person < 8; person++) {
                x.join(venture, person, 100 + venture, 11);
            }
            Check.is("result", x.result(venture, -90 - venture, -2), 810 + 8 * venture);
        }
        x.deposit(7, 9000);
        x.pass(354);
        return x;
    }

    private static void fullHouse() {
        RibafreeHouse x = full();
        Check.is("eight are too dear", x.best(100, true), 127);
        // RENTS are 0. Seven have 8999 + 20 - 615 and give 210 of 8404, the last one 10 of 404.
        Check.is("CHARITY", x.house(2), 7 * 210 + 10);
        Check.is("CASH of all", x.house(13), 7 * 8194 + 394);
        Check.is("LEASES", x.house(9), 8);
        Check.is("RENTS", x.ofLease(7, 3), 11);
        Check.is("digest", x.digest(), digestByQuestions(HouseTest::full));
        Check.is("isSound()", x.isSound(), true);
    }

    private interface Made {
        RibafreeHouse house();
    }

    /**
     * The digest as the document tells it, out of the other answers alone. Each kind of them is
     * asked of an object of its own, as what an object answers behind 512 calls is free.
     */
    private static long digestByQuestions(Made made) {
        long[] d = {7307};
        RibafreeHouse x = made.house();
        for (int what = 0; what <= 15; what++) {
            mix(d, x.house(what));
        }
        row(d, 0, 7, made.house()::ofPerson);
        row(d, 1, 6, made.house()::ofThing);
        row(d, 2, 9, made.house()::ofSale);
        row(d, 2, 5, made.house()::ofLease);
        for (int venture = 0; venture < x.house(10); venture++) {
            int each = venture;
            RibafreeHouse other = made.house();
            row(d, 0, 2, (number, what) -> other.ofVenture(each, number, what));
            for (int what = 0; what <= 2; what++) {
                mix(d, other.ofVenture(venture, -1, what));
            }
        }
        row(d, 0, 2, made.house()::ofFirm);
        for (int question = 0; question < 5; question++) {
            mix(d, x.allowed(question, x.house(0)) ? 1 : 0);
        }
        mix(d, x.best(100, false));
        mix(d, x.best(100, true));
        mix(d, x.isSound() ? 1 : 0);
        return d[0];
    }

    private interface Question {
        int ask(int number, int what);
    }

    private static void row(long[] d, int first, int last, Question question) {
        boolean isThere = true;
        for (int number = 0; isThere; number++) {
            try {
                for (int what = first; what <= last; what++) {
                    mix(d, question.ask(number, what));
                }
            } catch (IndexOutOfBoundsException nothingMore) {
                isThere = false;
            }
        }
    }

    private static void mix(long[] d, long number) {
        d[0] = d[0] * 31 + number;
    }
}
