/** What the tests share: answers that are due, exceptions that are due, and the end of a test. */
final class Check {
    static final Class<?> INDEX = IndexOutOfBoundsException.class;
    static final Class<?> ARGUMENT = IllegalArgumentException.class;
    static final Class<?> STATE = IllegalStateException.class;

    private static int wrong = 0;

    private Check() {
    }

    static void is(String call, long got, long due) {
        if (got != due) {
            tell(call + " answered " + got + ", due is " + due);
        }
    }

    static void is(String call, String got, String due) {
        if (!due.equals(got)) {
            tell(call + " answered " + got + ", due is " + due);
        }
    }

    static void is(String call, boolean got, boolean due) {
        if (got != due) {
            tell(call + " answered " + got + ", due is " + due);
        }
    }

    /** The call throws exactly that exception, no kind of it, and changes nothing. */
    static void fails(String call, Class<?> due, RibafreeHouse house, Runnable act) {
        long before = house.digest();
        Class<?> got = null;
        try {
            act.run();
        } catch (RuntimeException thrown) {
            got = thrown.getClass();
        }
        if (got != due) {
            tell(call + " threw " + got + ", due is " + due);
        }
        if (house.digest() != before) {
            tell(call + " changed something");
        }
    }

    /** The call is let: it throws nothing. */
    static void lets(String call, Runnable act) {
        try {
            act.run();
        } catch (RuntimeException thrown) {
            tell(call + " threw " + thrown.getClass() + ", nothing is due");
        }
    }

    static void tell(String fault) {
        wrong++;
        StackTraceElement[] calls = new Throwable().getStackTrace();
        int line = 0;
        for (StackTraceElement call : calls) {
            if (call.getClassName().endsWith("Test") && line == 0) {
                line = call.getLineNumber();
            }
        }
        System.out.println("line " + line + ": " + fault);
    }

    static void end() {
        System.out.println(wrong == 0 ? "all answers are as due" : wrong + " faults");
        if (wrong != 0) {
            System.exit(1);
        }
    }

    /** A house with as many PEOPLE as there are numbers, each with that CASH. */
    static RibafreeHouse withPeople(int... cash) {
        RibafreeHouse house = new RibafreeHouse();
        for (int each : cash) {
            house.person(each);
        }
        return house;
    }

    /** Three of PEOPLE with much CASH, and things of that WORTH, which the MARKET owns. */
    static RibafreeHouse withThings(int... worth) {
        RibafreeHouse house = withPeople(5000, 5000, 5000);
        for (int each : worth) {
            house.thing(each, -1);
        }
        return house;
    }

    /** The same, but the HOUSE bought them all; it does not hold them yet. */
    static RibafreeHouse withBought(int... worth) {
        RibafreeHouse house = withThings(worth);
        for (int thing = 0; thing < worth.length; thing++) {
            house.buy(thing);
        }
        return house;
    }

    /** The same, but the HOUSE holds them all. */
    static RibafreeHouse withHeld(int... worth) {
        RibafreeHouse house = withBought(worth);
        for (int thing = 0; thing < worth.length; thing++) {
            house.take(thing);
        }
        return house;
    }

    /** Three SCHOLARS leave the QUESTION, so that it is no longer ALLOWED. */
    static void forbid(RibafreeHouse house, int question) {
        for (int scholar = 0; scholar < 3; scholar++) {
            house.hold(scholar, question, false);
        }
    }

    static void passTo(RibafreeHouse house, int day) {
        while (house.house(0) < day) {
            house.pass(Math.min(400, day - house.house(0)));
        }
    }
}
