/** Section 1, sentence by sentence: three of five are for it, and what is over does not change. */
public final class BoardEdgesTest {
    public static void main(String[] args) {
        forItAtFirst();
        twoOrThree();
        eachScholarCounts();
        toldTwice();
        asTheDayEnded();
        onThisDay();
        manyDaysAtOnce();
        whatIsOverStays();
        eachQuestionForItself();
        Check.end();
    }

    // "Each SCHOLAR is for a QUESTION (at first)."
    private static void forItAtFirst() {
        for (int question = 0; question < 5; question++) {
            for (int scholar = 0; scholar < 5; scholar++) {
                RibafreeHouse x = new RibafreeHouse();
                Check.is("allowed", x.allowed(question, 0), true);
                Check.is("one against it", x.hold(scholar, question, false), 4);
                Check.is("for it again", x.hold(scholar, question, true), 5);
            }
        }
    }

    // "A QUESTION is ALLOWED on a DAY, if three or more were for it."
    private static void twoOrThree() {
        for (int question = 0; question < 5; question++) {
            RibafreeHouse x = new RibafreeHouse();
            for (int scholar = 0; scholar < 5; scholar++) {
                int left = 4 - scholar;
                Check.is("hold", x.hold(scholar, question, false), left);
                Check.is("of " + left, x.allowed(question, 0), left >= 3);
            }
            for (int scholar = 0; scholar < 5; scholar++) {
                int some = scholar + 1;
                Check.is("hold", x.hold(scholar, question, true), some);
                Check.is("of " + some, x.allowed(question, 0), some >= 3);
            }
        }
    }

    private static void eachScholarCounts() {
        for (int set = 0; set < 32; set++) {
            RibafreeHouse x = new RibafreeHouse();
            for (int scholar = 0; scholar < 5; scholar++) {
                x.hold(scholar, set % 5, (set >> scholar & 1) == 1);
            }
            boolean due = Integer.bitCount(set) >= 3;
            Check.is("allowed by " + set, x.allowed(set % 5, 0), due);
            Check.is("allowed by five", x.allowed((set + 1) % 5, 0), true);
        }
    }

    private static void toldTwice() {
        RibafreeHouse x = new RibafreeHouse();
        Check.is("for it already", x.hold(2, 3, true), 5);
        Check.is("against it", x.hold(2, 3, false), 4);
        Check.is("against it already", x.hold(2, 3, false), 4);
        Check.is("for it", x.hold(2, 3, true), 5);
    }

    // "As that DAY ended": what was held for a part of the DAY only does not count.
    private static void asTheDayEnded() {
        RibafreeHouse x = new RibafreeHouse();
        Check.forbid(x, 0);
        x.hold(0, 0, true);
        x.hold(0, 1, false);
        x.hold(1, 1, false);
        x.hold(2, 1, false);
        x.pass(1);
        x.hold(2, 1, true);
        Check.is("for it as the day ended", x.allowed(0, 0), true);
        Check.is("against it as the day ended", x.allowed(1, 0), false);
        Check.is("for it now", x.allowed(1, 1), true);
    }

    // "On this DAY: are for it now."
    private static void onThisDay() {
        RibafreeHouse x = new RibafreeHouse();
        x.pass(5);
        Check.forbid(x, 2);
        Check.is("now", x.allowed(2, 5), false);
        Check.is("yesterday", x.allowed(2, 4), true);
        x.hold(1, 2, true);
        Check.is("now", x.allowed(2, 5), true);
        x.hold(4, 2, false);
        Check.is("now", x.allowed(2, 5), false);
        x.pass(1);
        Check.is("the same, a day on", x.allowed(2, 6), false);
        Check.is("as it ended", x.allowed(2, 5), false);
    }

    private static void manyDaysAtOnce() {
        RibafreeHouse x = new RibafreeHouse();
        Check.forbid(x, 4);
        x.pass(400);
        x.hold(0, 4, true);
        x.pass(400);
        for (int day = 0; day <= 800; day += day < 395 || day >= 405 ? 5 : 1) {
            Check.is("allowed on " + day, x.allowed(4, day), day >= 400);
        }
    }

    // "What a SCHOLAR held on a DAY that is over does not change."
    private static void whatIsOverStays() {
        RibafreeHouse x = new RibafreeHouse();
        for (int day = 0; day < 12; day++) {
            boolean isFor = day % 3 == 0;
            for (int scholar = 0; scholar < 3; scholar++) {
                x.hold(scholar, 1, isFor);
            }
            x.pass(1);
        }
        for (int round = 0; round < 2; round++) {
            for (int day = 0; day < 12; day++) {
                Check.is("allowed on " + day, x.allowed(1, day), day % 3 == 0);
            }
            for (int scholar = 0; scholar < 5; scholar++) {
                x.hold(scholar, 1, round == 0);
            }
            x.pass(400);
        }
    }

    private static void eachQuestionForItself() {
        for (int forbidden = 0; forbidden < 32; forbidden++) {
            RibafreeHouse x = new RibafreeHouse();
            for (int question = 0; question < 5; question++) {
                if ((forbidden >> question & 1) == 1) {
                    Check.forbid(x, question);
                }
            }
            x.pass(1);
            for (int question = 0; question < 5; question++) {
                boolean due = (forbidden >> question & 1) == 0;
                Check.is("allowed before", x.allowed(question, 0), due);
                Check.is("allowed now", x.allowed(question, 1), due);
            }
        }
    }
}
