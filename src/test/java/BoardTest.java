/** Promises 1, 2, 3, 4, 22 and 29: a new object, hold, person, thing, pass, allowed. */
public final class BoardTest {
    public static void main(String[] args) {
        newObject();
        votes();
        wrongVotes();
        daysThatAreOver();
        pastOfEachQuestion();
        wrongDays();
        people();
        things();
        passing();
        Check.end();
    }

    private static void newObject() {
        RibafreeHouse x = new RibafreeHouse();
        int[] due = {0, 10000, 0, 0, 0, 10, 0, 0, 0, 0, 0, 0, 0, 0, 100, 20};
        for (int what = 0; what < due.length; what++) {
            Check.is("house(" + what + ")", x.house(what), due[what]);
        }
        for (int question = 0; question < 5; question++) {
            Check.is("allowed", x.allowed(question, 0), true);
        }
        Check.is("isSound()", x.isSound(), true);
        Check.fails("ofPerson", Check.INDEX, x, () -> x.ofPerson(0, 0));
        Check.fails("ofThing", Check.INDEX, x, () -> x.ofThing(0, 0));
    }

    private static void votes() {
        for (int question = 0; question < 5; question++) {
            RibafreeHouse x = new RibafreeHouse();
            Check.is("hold", x.hold(0, question, true), 5);
            Check.is("hold", x.hold(4, question, false), 4);
            Check.is("hold", x.hold(4, question, false), 4);
            Check.is("hold", x.hold(2, question, false), 3);
            Check.is("allowed", x.allowed(question, 0), true);
            Check.is("hold", x.hold(0, question, false), 2);
            Check.is("allowed", x.allowed(question, 0), false);
            for (int other = 0; other < 5; other++) {
                Check.is("allowed of another", x.allowed(other, 0), other != question);
            }
            Check.is("hold", x.hold(4, question, true), 3);
            Check.is("allowed", x.allowed(question, 0), true);
        }
    }

    private static void wrongVotes() {
        RibafreeHouse x = new RibafreeHouse();
        Check.fails("hold", Check.INDEX, x, () -> x.hold(-1, 0, false));
        Check.fails("hold", Check.INDEX, x, () -> x.hold(5, 0, false));
        Check.fails("hold", Check.INDEX, x, () -> x.hold(0, -1, false));
        Check.fails("hold", Check.INDEX, x, () -> x.hold(0, 5, false));
        Check.is("hold", x.hold(4, 4, true), 5);
    }

    private static void daysThatAreOver() {
        RibafreeHouse x = new RibafreeHouse();
        Check.forbid(x, 1);
        x.pass(1);
        Check.is("allowed(1, 1)", x.allowed(1, 1), false);
        x.hold(0, 1, true);
        Check.is("allowed(1, 0)", x.allowed(1, 0), false);
        Check.is("allowed(1, 1)", x.allowed(1, 1), true);
        x.hold(0, 1, false);
        x.hold(0, 1, true);
        x.pass(400);
        x.hold(0, 1, false);
        Check.is("allowed(1, 0)", x.allowed(1, 0), false);
        Check.is("allowed(1, 1)", x.allowed(1, 1), true);
        Check.is("allowed(1, 400)", x.allowed(1, 400), true);
        Check.is("allowed(1, 401)", x.allowed(1, 401), false);
        for (int question = 0; question < 5; question++) {
            Check.is("allowed of day 0", x.allowed(question, 0), question != 1);
        }
        Check.passTo(x, 4000);
        Check.is("allowed(1, 3999)", x.allowed(1, 3999), false);
        Check.is("allowed(4, 3999)", x.allowed(4, 3999), true);
        Check.is("allowed(4, 4000)", x.allowed(4, 4000), true);
    }

    private static void pastOfEachQuestion() {
        for (int question = 0; question < 5; question++) {
            RibafreeHouse x = new RibafreeHouse();
            Check.forbid(x, question);
            x.pass(2);
            x.hold(0, question, true);
            x.pass(1);
            for (int other = 0; other < 5; other++) {
                Check.is("allowed of day 1", x.allowed(other, 1), other != question);
                Check.is("allowed of day 2", x.allowed(other, 2), true);
            }
        }
    }

    private static void wrongDays() {
        RibafreeHouse x = new RibafreeHouse();
        x.pass(3);
        Check.fails("allowed", Check.INDEX, x, () -> x.allowed(-1, 0));
        Check.fails("allowed", Check.INDEX, x, () -> x.allowed(5, 0));
        Check.fails("allowed", Check.INDEX, x, () -> x.allowed(5, 4));
        Check.fails("allowed", Check.ARGUMENT, x, () -> x.allowed(0, -1));
        Check.fails("allowed", Check.ARGUMENT, x, () -> x.allowed(0, 4));
        Check.fails("allowed", Check.ARGUMENT, x, () -> x.allowed(0, Integer.MAX_VALUE));
    }

    private static void people() {
        RibafreeHouse x = new RibafreeHouse();
        Check.fails("person", Check.ARGUMENT, x, () -> x.person(-1));
        Check.fails("person", Check.ARGUMENT, x, () -> x.person(10000));
        for (int person = 0; person < 8; person++) {
            Check.is("person", x.person(person == 7 ? 9999 : person), person);
        }
        Check.is("CASH", x.ofPerson(0, 0), 0);
        Check.is("CASH", x.ofPerson(7, 0), 9999);
        Check.is("CASH of all", x.house(13), 9999 + 21);
        Check.is("CASH of the house", x.house(1), 10000);
        Check.fails("person", Check.ARGUMENT, x, () -> x.person(-1));
        Check.fails("person", Check.STATE, x, () -> x.person(0));
    }

    private static void things() {
        RibafreeHouse x = Check.withPeople(5, 5);
        Check.fails("thing", Check.INDEX, x, () -> x.thing(1, 2));
        Check.fails("thing", Check.INDEX, x, () -> x.thing(0, -2));
        Check.fails("thing", Check.ARGUMENT, x, () -> x.thing(0, 0));
        Check.fails("thing", Check.ARGUMENT, x, () -> x.thing(1000, -1));
        Check.is("thing", x.thing(999, -1), 0);
        Check.is("thing", x.thing(1, 1), 1);
        int[] ofMarket = {999, 9, 1, 0, 0, -1, -1};
        int[] ofPerson = {1, 1, 1, 0, 0, -1, -1};
        for (int what = 0; what <= 6; what++) {
            Check.is("ofThing(0, " + what + ")", x.ofThing(0, what), ofMarket[what]);
            Check.is("ofThing(1, " + what + ")", x.ofThing(1, what), ofPerson[what]);
        }
        for (int thing = 2; thing < 16; thing++) {
            Check.is("thing", x.thing(7, 0), thing);
        }
        Check.is("things of 0", x.ofPerson(0, 1), 14);
        Check.fails("thing", Check.STATE, x, () -> x.thing(7, 0));
        Check.fails("thing", Check.ARGUMENT, x, () -> x.thing(0, 0));
        Check.fails("thing", Check.INDEX, x, () -> x.thing(0, 2));
    }

    private static void passing() {
        RibafreeHouse x = new RibafreeHouse();
        Check.fails("pass", Check.ARGUMENT, x, () -> x.pass(0));
        Check.fails("pass", Check.ARGUMENT, x, () -> x.pass(-1));
        Check.fails("pass", Check.ARGUMENT, x, () -> x.pass(401));
        Check.is("pass", x.pass(1), 1);
        Check.is("pass", x.pass(400), 401);
        Check.passTo(x, 3999);
        Check.fails("pass", Check.STATE, x, () -> x.pass(2));
        Check.fails("pass", Check.ARGUMENT, x, () -> x.pass(401));
        Check.is("pass", x.pass(1), 4000);
        Check.fails("pass", Check.STATE, x, () -> x.pass(1));
        Check.is("DAY", x.house(0), 4000);
    }
}
