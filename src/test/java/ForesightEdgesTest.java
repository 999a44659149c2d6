/** The boundary cases of what there is and what could be: promises 21 to 25. */
public final class ForesightEdgesTest {
    private static final int[] EXTREMES = {Integer.MIN_VALUE, -100, -2, -1, 6, 7, 100, Integer.MAX_VALUE};

    public static void main(String[] args) {
        total();
        alike();
        bestPair();
        fits();
        mostTurns();
        Due.end();
    }

    private static void total() {
        Edge.of("Promise 21:", "0 for the cell of the hand", ForesightEdgesTest::totalOfTheHand);
        Edge.of("Promise 21:", "1 for the sum of all cells", ForesightEdgesTest::totalOfTheCells);
        Edge.of("Promise 21:", "2 for the tries that are kept", ForesightEdgesTest::totalOfTheTries);
        Edge.of("Promise 21:", "3 for the steps of the open one (NONE if none is open)", ForesightEdgesTest::totalOfTheOpenOne);
        Edge.of("Promise 21:", "4 for the loops", ForesightEdgesTest::totalOfTheLoops);
        Edge.of("Promise 21:", "5 for steps done so far", ForesightEdgesTest::totalOfTheSteps);
        Edge.of("Promise 21:", "6 for tests that failed so far", ForesightEdgesTest::totalOfTheTests);
        Edge.of("Promise 21:", "7 for plays so far (also of loops in programs)", ForesightEdgesTest::totalOfThePlays);
        Edge.of("Promise 21:", "8 for the reason by which the latest one of these ended (NONE if there was none)",
                ForesightEdgesTest::totalOfTheReason);
        Edge.of("Promise 21:", "9 for how many different rows of verbs the kept tries have",
                ForesightEdgesTest::totalOfTheRowsOfVerbs);
        Edge.of("Promise 21:", "10 for the states in the history", ForesightEdgesTest::totalOfTheStates);
        Edge.of("Promise 21:", "11 for the length of the text", ForesightEdgesTest::totalOfTheText);
        Edge.of("Promise 21:", "OUT_OF_RANGE", ForesightEdgesTest::totalOutOfRange);
    }

    private static void alike() {
        Edge.of("Promise 22:", "a try, perhaps the same one", ForesightEdgesTest::alikeItself);
        Edge.of("Promise 22:", "the greatest number of verbs that both have in the same order",
                ForesightEdgesTest::alikeInTheSameOrder);
        Edge.of("Promise 22:", "(perhaps with others between them)", ForesightEdgesTest::alikeWithOthersBetween);
        Edge.of("Promise 22:", "1 for the same of whole steps (verb and number)", ForesightEdgesTest::alikeWholeSteps);
        Edge.of("Promise 22:", "Returns the number", ForesightEdgesTest::alikeFrom0To12);
        Edge.of("Promise 22:", "UNKNOWN", ForesightEdgesTest::alikeUnknown);
        Edge.of("Promise 22:", "OUT_OF_RANGE", ForesightEdgesTest::alikeOutOfRange);
    }

    private static void bestPair() {
        Edge.of("Promise 23:", "Finds the pair of tries that can be generalised by which the most strides are 0",
                ForesightEdgesTest::theMostZeros);
        Edge.of("Promise 23:", "of several the one with the lowest first try", ForesightEdgesTest::theLowestFirst);
        Edge.of("Promise 23:", "of these the lowest second one", ForesightEdgesTest::theLowestSecond);
        Edge.of("Promise 23:", "(which has the greater number)", ForesightEdgesTest::theSecondIsGreater);
        Edge.of("Promise 23:", "0 for 10 times the first one plus the second one", ForesightEdgesTest::theFirstAndTheLastPair);
        Edge.of("Promise 23:", "1 for how many strides are 0", ForesightEdgesTest::zerosFrom0To12);
        Edge.of("Promise 23:", "OUT_OF_RANGE", ForesightEdgesTest::bestPairOutOfRange);
        Edge.of("Promise 23:", "NONE if there is no such pair", ForesightEdgesTest::noPair);
    }

    private static void fits() {
        Edge.of("Promise 24:", "that it has just the steps of its first turns", ForesightEdgesTest::justTheFirstTurns);
        Edge.of("Promise 24:", "as many as there may be (more than the loop has, too)", ForesightEdgesTest::moreThanItHas);
        Edge.of("Promise 24:", "Returns how many, 1 to 12", ForesightEdgesTest::fitsFrom1To12);
        Edge.of("Promise 24:", "UNKNOWN (loop or try)", ForesightEdgesTest::fitsUnknown);
        Edge.of("Promise 24:", "NONE if it is not", ForesightEdgesTest::fitsNone);
    }

    private static void mostTurns() {
        Edge.of("Promise 25:", "how many turns a loop could have without a number out of its range",
                ForesightEdgesTest::mostTurnsJustWithin);
        Edge.of("Promise 25:", "Returns how many, 1 or more", ForesightEdgesTest::mostTurnsFrom1);
        Edge.of("Promise 25:", "UNKNOWN", ForesightEdgesTest::mostTurnsUnknown);
        Edge.of("Promise 25:", "NONE if there is no bound (all strides are 0)", ForesightEdgesTest::mostTurnsWithoutABound);
    }

    private static void totalOfTheHand() {
        TryLoops x = new TryLoops();
        Due.is("at first", x.total(0), 0);
        Due.steps(x, 0, 29);
        Due.is("the last", x.total(0), 29);
        Due.perform(x, "40(g0+1)");
        Due.is("of a play that went beyond", x.total(0), 29);
        Due.perform(x, "40(g29-1)");
        Due.is("the first", x.total(0), 0);
    }

    private static void totalOfTheCells() {
        TryLoops x = new TryLoops();
        Due.is("none", x.total(1), 0);
        Due.steps(x, 0, 29, 1, 99);
        Due.is("the last cell alone", x.total(1), 99);
        Due.perform(x, "30(g0+1,w99)");
        Due.is("all of them", x.total(1), 2970);
        Due.is("one wraps around", x.step(2, 1), 0);
        Due.is("the others", x.total(1), 2871);
    }

    private static void totalOfTheTries() {
        TryLoops x = new TryLoops();
        for (int i = 0; i < 6; i++) {
            Due.is("tries", x.total(2), i);
            x.record();
            Due.steps(x, 1, 1);
            Due.is("the open one does not count", x.total(2), i);
            x.end();
        }
        Due.is("tries", x.total(2), 6);
    }

    private static void totalOfTheOpenOne() {
        TryLoops x = new TryLoops();
        Due.is("none is open", x.total(3), -5);
        x.record();
        Due.is("an empty one", x.total(3), 0);
        for (int i = 1; i <= 12; i++) {
            x.step(2, 1);
            Due.is("steps", x.total(3), i);
        }
        x.step(2, 1);
        Due.is("a thirteenth is refused", x.total(3), 12);
        x.end();
        Due.is("none is open", x.total(3), -5);
    }

    private static void totalOfTheLoops() {
        TryLoops x = new TryLoops();
        Due.aTry(x, 1, 1, 1, 2);
        for (int i = 0; i < 6; i++) {
            Due.is("loops", x.total(4), i);
            x.fold(0);
        }
        Due.is("loops", x.total(4), 6);
        x.fold(0);
        Due.is("a seventh is refused", x.total(4), 6);
        Due.perform(x, "2(a1)");
        Due.is("a loop of a program does not count", x.total(4), 6);
    }

    private static void totalOfTheSteps() {
        TryLoops x = new TryLoops();
        Due.is("none", x.total(5), 0);
        x.step(0, 30);
        x.step(6, 0);
        Due.is("refused ones", x.total(5), 0);
        Due.steps(x, 0, 0);
        Due.is("one that leaves all as it was", x.total(5), 1);
        Due.steps(x, 1, 1);
        x.step(5, 0);
        Due.is("a test that fails", x.total(5), 3);
        x.undo();
        Due.is("it is undone", x.total(5), 2);
        TryLoops y = new TryLoops();
        String text = "99(a1,a1,a1,a1,a1,a1,a1,a1,a1,a1,a1,a1,a1,a1,a1,a1,a1,a1)";
        Due.is("the longest play", Due.perform(y, text), 99 * 18);
        for (int i = 2; i <= 400; i++) {
            y.perform();
        }
        Due.is("the most of a long run", y.total(5), 400 * 99 * 18);
    }

    private static void totalOfTheTests() {
        TryLoops x = new TryLoops();
        Due.is("none", x.total(6), 0);
        x.step(5, 0);
        Due.is("a passed one", x.total(6), 0);
        x.step(1, 1);
        x.step(5, 0);
        Due.is("by step", x.total(6), 1);
        Due.perform(x, "t0;t1;t0;9(t0);9(t1);9(t3-1)");
        Due.is("by the steps and the loops of a program", x.total(6), 5);
        x.undo();
        Due.is("they are undone", x.total(6), 1);
    }

    private static void totalOfThePlays() {
        TryLoops x = new TryLoops();
        Due.aTry(x, 1, 1, 1, 2);
        x.fold(0);
        Due.is("none", x.total(7), 0);
        x.play(1);
        x.ifPlayed(0, 9, 0);
        x.fewestTurns(0, 0, 9);
        Due.is("refused and foreseen ones", x.total(7), 0);
        x.play(0);
        Due.is("one", x.total(7), 1);
        Due.perform(x, "a1;a1");
        Due.is("steps of a program are none", x.total(7), 1);
        Due.perform(x, "2(a1);a1;2(w99+1);w1;2(t0)");
        Due.is("each loop of a program is one, ended early or not", x.total(7), 4);
        x.undo();
        x.undo();
        Due.is("they are undone", x.total(7), 1);
    }

    private static void totalOfTheReason() {
        TryLoops x = new TryLoops();
        Due.is("none", x.total(8), -5);
        Due.perform(x, "w1;t0");
        Due.is("a test by itself is no play", x.total(8), -5);
        Due.perform(x, "2(a1)");
        Due.is("by its turns", x.total(8), 0);
        Due.perform(x, "2(a1);2(w99+1)");
        Due.is("by a number, the latest", x.total(8), 1);
        Due.perform(x, "2(w99+1);2(t0)");
        Due.is("by a test, the latest", x.total(8), 2);
        Due.perform(x, "2(t0);2(a1);t0");
        Due.is("by its turns, the latest", x.total(8), 0);
        for (int i = 0; i < 4; i++) {
            x.undo();
        }
        Due.is("none again", x.total(8), -5);
    }

    private static void totalOfTheRowsOfVerbs() {
        TryLoops x = new TryLoops();
        Due.is("no tries", x.total(9), 0);
        Due.aTry(x, 1, 1);
        Due.is("one", x.total(9), 1);
        Due.aTry(x, 1, 99);
        Due.is("another number", x.total(9), 1);
        Due.aTry(x, 1, 1, 1, 1);
        Due.is("another length", x.total(9), 2);
        x.record();
        Due.steps(x, 5, 99);
        Due.is("the open one does not count", x.total(9), 2);
        x.end();
        Due.is("another verb", x.total(9), 3);
        TryLoops y = new TryLoops();
        for (int i = 0; i < 6; i++) {
            Due.aTry(y, Due.times(i + 1, 1, 1));
        }
        Due.is("six different ones", y.total(9), 6);
        TryLoops z = new TryLoops();
        for (int i = 0; i < 6; i++) {
            Due.aTry(z, Due.times(12, 1, i));
        }
        Due.is("six of one row", z.total(9), 1);
        z.dropTry(0);
        z.record();
        Due.steps(z, Due.times(11, 1, 0));
        Due.steps(z, 2, 1);
        z.end();
        Due.is("the twelfth verb", z.total(9), 2);
    }

    private static void totalOfTheStates() {
        TryLoops x = new TryLoops();
        for (int i = 0; i < 7; i++) {
            Due.is("states", x.total(10), Math.min(i, 4));
            x.step(2, 1);
        }
        for (int left = 3; left >= 0; left--) {
            x.undo();
            Due.is("states", x.total(10), left);
        }
        x.undo();
        Due.is("states", x.total(10), 0);
    }

    private static void totalOfTheText() {
        TryLoops x = new TryLoops();
        Due.is("empty", x.total(11), 0);
        for (int i = 1; i <= 60; i++) {
            x.type('x');
            Due.is("length", x.total(11), i);
        }
        x.type('x');
        Due.is("a 61st is refused", x.total(11), 60);
        x.clearText();
        Due.is("empty", x.total(11), 0);
    }

    private static void totalOutOfRange() {
        TryLoops x = new TryLoops();
        int[] wrong = {Integer.MIN_VALUE, -100, -1, 12, 13, 100, Integer.MAX_VALUE};
        for (int what : wrong) {
            Due.is("total(" + what + ")", x.total(what), -2);
        }
        Due.is("the least", x.total(0), 0);
        Due.is("the greatest", x.total(11), 0);
    }

    private static void alikeItself() {
        TryLoops x = new TryLoops();
        Due.aTry(x, 1, 1);
        Due.aTry(x, Due.times(12, 2, 5));
        Due.aTry(x, 0, 1, 1, 1, 2, 1, 0, 2, 1, 2, 2, 2);
        int[] due = {1, 12, 6};
        for (int number = 0; number < 3; number++) {
            Due.is("verbs", x.alike(number, number, 0), due[number]);
            Due.is("steps", x.alike(number, number, 1), due[number]);
        }
    }

    private static void alikeInTheSameOrder() {
        TryLoops x = new TryLoops();
        Due.aTry(x, 0, 1, 1, 1, 2, 1, 3, 1);
        Due.aTry(x, 3, 1, 2, 1, 1, 1, 0, 1);
        Due.is("the order turned round: one alone", x.alike(0, 1, 0), 1);
        Due.is("the order turned round: one step alone", x.alike(0, 1, 1), 1);
        Due.aTry(x, 1, 1, 0, 1, 3, 1, 2, 1);
        Due.is("two pairs exchanged", x.alike(0, 2, 0), 2);
        Due.aTry(x, 3, 1, 0, 1, 1, 1, 2, 1);
        Due.is("the last one ahead", x.alike(0, 3, 0), 3);
        Due.is("turned", x.alike(3, 0, 0), 3);
    }

    private static void alikeWithOthersBetween() {
        TryLoops x = new TryLoops();
        Due.aTry(x, 0, 1, 1, 1, 2, 1);
        Due.aTry(x, 0, 1, 5, 1, 5, 2, 1, 1, 5, 3, 2, 1);
        Due.is("others in one", x.alike(0, 1, 0), 3);
        Due.is("others in one, whole steps", x.alike(1, 0, 1), 3);
        Due.aTry(x, 4, 1, 0, 1, 4, 2, 1, 1, 4, 3, 4, 4, 2, 1, 4, 5);
        Due.is("others in both", x.alike(1, 2, 0), 3);
        Due.is("others in both, whole steps", x.alike(2, 1, 1), 3);
        // the greatest number, not the first way: w first would leave two
        Due.aTry(x, 1, 1, 0, 1, 2, 1, 3, 1);
        Due.aTry(x, 0, 1, 2, 1, 3, 1, 1, 1);
        Due.is("the greatest", x.alike(3, 4, 0), 3);
        Due.is("the greatest, turned", x.alike(4, 3, 1), 3);
    }

    private static void alikeWholeSteps() {
        TryLoops x = new TryLoops();
        Due.aTry(x, 1, 1, 2, 1, 1, 2);
        Due.aTry(x, 1, 2, 2, 2, 1, 1);
        Due.is("verbs", x.alike(0, 1, 0), 3);
        Due.is("one whole step", x.alike(0, 1, 1), 1);
        Due.aTry(x, 2, 1, 1, 1, 2, 2);
        Due.is("a number of another verb is not it", x.alike(0, 2, 1), 1);
        Due.aTry(x, 5, 1, 5, 1, 5, 2);
        Due.is("numbers alone", x.alike(0, 3, 1), 0);
        Due.aTry(x, 1, 3, 2, 3, 1, 4);
        Due.is("verbs alone", x.alike(0, 4, 1), 0);
    }

    private static void alikeFrom0To12() {
        TryLoops x = new TryLoops();
        Due.aTry(x, Due.times(12, 2, 5));
        Due.aTry(x, Due.times(12, 2, 6));
        Due.aTry(x, Due.times(12, 1, 6));
        Due.aTry(x, Due.times(1, 2, 5));
        Due.is("12", x.alike(0, 1, 0), 12);
        Due.is("0", x.alike(0, 1, 1), 0);
        Due.is("0", x.alike(0, 2, 0), 0);
        Due.is("1", x.alike(0, 3, 0), 1);
        Due.is("1", x.alike(3, 0, 1), 1);
        Due.is("0 after others", x.alike(3, 2, 0), 0);
        for (int steps = 1; steps <= 12; steps++) {
            TryLoops y = new TryLoops();
            Due.aTry(y, Due.times(12, 2, 5));
            Due.aTry(y, Due.times(steps, 2, 5));
            Due.is("as many as the shorter one has", y.alike(0, 1, 1), steps);
            Due.is("turned", y.alike(1, 0, 1), steps);
        }
    }

    private static void alikeUnknown() {
        TryLoops x = new TryLoops();
        Due.is("none at all", x.alike(0, 0, 0), -1);
        Due.aTry(x, 1, 1);
        for (int number : EXTREMES) {
            Due.is("alike(" + number + ", 0, 0)", x.alike(number, 0, 0), -1);
            Due.is("alike(0, " + number + ", 1)", x.alike(0, number, 1), -1);
            Due.is("both", x.alike(number, number, 0), -1);
        }
        x.record();
        Due.steps(x, 1, 1);
        Due.is("the open one", x.alike(1, 0, 0), -1);
        Due.is("the open one", x.alike(0, 1, 0), -1);
        Due.is("the open one with itself", x.alike(1, 1, 0), -1);
    }

    private static void alikeOutOfRange() {
        TryLoops x = new TryLoops();
        Due.aTry(x, 1, 1);
        int[] wrong = {Integer.MIN_VALUE, -1, 2, 3, Integer.MAX_VALUE};
        for (int what : wrong) {
            Due.is("alike(0, 0, " + what + ")", x.alike(0, 0, what), -2);
        }
    }

    private static void theMostZeros() {
        TryLoops x = new TryLoops();
        Due.aTry(x, 1, 1, 1, 2, 1, 3);
        Due.aTry(x, 1, 1, 1, 9, 1, 9);
        Due.aTry(x, 1, 8, 1, 2, 1, 3);
        Due.is("two zeros", x.bestPair(0), 2);
        Due.is("two zeros", x.bestPair(1), 2);
        Due.aTry(x, 1, 8, 1, 2, 1, 3);
        Due.is("three zeros, of the last ones", x.bestPair(0), 23);
        // the most zeros, of a longer try too, not the shortest way
        Due.aTry(x, Due.times(12, 2, 5));
        Due.aTry(x, Due.times(12, 2, 5));
        Due.is("twelve zeros", x.bestPair(0), 45);
        Due.is("twelve zeros", x.bestPair(1), 12);
        // alike steps do not matter where they cannot be generalised
        TryLoops y = new TryLoops();
        Due.aTry(y, 1, 1, 1, 1, 1, 1);
        Due.aTry(y, 1, 1, 1, 1, 1, 1, 1, 1);
        Due.aTry(y, 1, 9, 1, 9, 1, 9);
        Due.is("the only pair", y.bestPair(0), 2);
        Due.is("no zero", y.bestPair(1), 0);
    }

    private static void theLowestFirst() {
        TryLoops x = new TryLoops();
        Due.aTry(x, 2, 1);
        Due.aTry(x, 1, 1);
        Due.aTry(x, 3, 1);
        Due.aTry(x, 3, 1);
        Due.is("3 and 2", x.bestPair(0), 23);
        Due.aTry(x, 1, 1);
        Due.is("1 and 4, of a lower first one", x.bestPair(0), 14);
        Due.aTry(x, 2, 1);
        Due.is("0 and 5, of the lowest first one", x.bestPair(0), 5);
        Due.is("one zero", x.bestPair(1), 1);
    }

    private static void theLowestSecond() {
        TryLoops x = new TryLoops();
        for (int i = 0; i < 6; i++) {
            Due.aTry(x, 1, 7);
            Due.is("the lowest second one", x.bestPair(0), i == 0 ? -5 : 1);
        }
        TryLoops y = new TryLoops();
        Due.aTry(y, 1, 1, 1, 1);
        Due.aTry(y, 1, 2, 1, 2);
        Due.aTry(y, 1, 1, 1, 3);
        Due.aTry(y, 1, 4, 1, 1);
        Due.is("2 ahead of 3", y.bestPair(0), 2);
    }

    private static void theSecondIsGreater() {
        TryLoops x = new TryLoops();
        Due.aTry(x, 1, 1);
        Due.is("a try is no pair with itself", x.bestPair(0), -5);
        Due.aTry(x, 2, 1);
        Due.aTry(x, 2, 1);
        Due.is("1 and 2, not 2 and 1", x.bestPair(0), 12);
    }

    private static void theFirstAndTheLastPair() {
        for (int one = 0; one < 6; one++) {
            for (int other = one + 1; other < 6; other++) {
                TryLoops x = new TryLoops();
                for (int number = 0; number < 6; number++) {
                    int steps = number == one || number == other ? 7 : number + 1;
                    Due.aTry(x, Due.times(steps, 1, 1));
                }
                Due.is("pair", x.bestPair(0), 10 * one + other);
                Due.is("zeros", x.bestPair(1), 7);
            }
        }
    }

    private static void zerosFrom0To12() {
        for (int zeros = 0; zeros <= 12; zeros++) {
            TryLoops x = new TryLoops();
            Due.aTry(x, Due.times(12, 1, 1));
            x.record();
            for (int i = 0; i < 12; i++) {
                Due.steps(x, 1, i < zeros ? 1 : 2);
            }
            x.end();
            Due.is("pair", x.bestPair(0), 1);
            Due.is("zeros", x.bestPair(1), zeros);
        }
    }

    private static void bestPairOutOfRange() {
        TryLoops x = new TryLoops();
        int[] wrong = {Integer.MIN_VALUE, -1, 2, 3, Integer.MAX_VALUE};
        for (int what : wrong) {
            Due.is("bestPair(" + what + ")", x.bestPair(what), -2);
        }
        Due.aTry(x, 1, 1);
        Due.aTry(x, 1, 1);
        for (int what : wrong) {
            Due.is("bestPair(" + what + ") of a pair", x.bestPair(what), -2);
        }
    }

    private static void noPair() {
        TryLoops x = new TryLoops();
        Due.is("no tries", x.bestPair(0), -5);
        Due.is("no tries", x.bestPair(1), -5);
        for (int i = 1; i <= 6; i++) {
            Due.aTry(x, Due.times(i, 1, 1));
            Due.is("all of another length", x.bestPair(0), -5);
            Due.is("all of another length", x.bestPair(1), -5);
        }
        x.dropTry(5);
        x.record();
        Due.steps(x, 1, 1);
        Due.is("the open one is no try", x.bestPair(0), -5);
        x.end();
        Due.is("now it is", x.bestPair(0), 5);
    }

    /** A loop of go 3 by 2 and write 50 by -5, of so many turns; it is the loop 0. */
    private static TryLoops loopToFit(int turns) {
        return Due.looped(new int[] {0, 1}, new int[] {3, 50}, new int[] {2, -5}, turns);
    }

    private static int fit(int... verbsAndNumbers) {
        TryLoops x = loopToFit(2);
        return x.fits(0, Due.aTry(x, verbsAndNumbers));
    }

    private static void justTheFirstTurns() {
        Due.is("the turn 0", fit(0, 3, 1, 50), 1);
        Due.is("the turns 0 and 1", fit(0, 3, 1, 50, 0, 5, 1, 45), 2);
        Due.is("the turn 1", fit(0, 5, 1, 45), -5);
        Due.is("the turn 0 twice", fit(0, 3, 1, 50, 0, 3, 1, 50), -5);
        Due.is("a step more", fit(0, 3, 1, 50, 0, 5), -5);
        Due.is("a step less", fit(0, 3), -5);
        Due.is("a step ahead of it", fit(5, 99, 0, 3, 1, 50), -5);
        Due.is("the steps exchanged", fit(1, 50, 0, 3), -5);
    }

    private static void moreThanItHas() {
        int[] turns = {1, 2, 5, 6, 7, 99};
        for (int itsOwn : turns) {
            TryLoops x = loopToFit(itsOwn);
            int number = Due.aTry(x, 0, 3, 1, 50, 0, 5, 1, 45, 0, 7, 1, 40, 0, 9, 1, 35, 0, 11, 1, 30, 0, 13, 1, 25);
            Due.is("six turns, of a loop of " + itsOwn, x.fits(0, number), 6);
            Due.is("one turn, of a loop of " + itsOwn, x.fits(0, Due.aTry(x, 0, 3, 1, 50)), 1);
        }
    }

    private static void fitsFrom1To12() {
        for (int turns = 1; turns <= 12; turns++) {
            TryLoops x = Due.looped(new int[] {1}, new int[] {99}, new int[] {-9}, 2);
            x.record();
            for (int turn = 0; turn < turns; turn++) {
                Due.steps(x, 1, 99 - 9 * turn);
            }
            x.end();
            Due.is("turns", x.fits(0, 0), turns);
        }
        TryLoops y = new TryLoops();
        Due.aTry(y, Due.times(12, 2, 1));
        Due.aTry(y, Due.times(12, 2, 1));
        y.generalise(0, 1);
        Due.is("a body of 12 is one turn", y.fits(0, 0), 1);
    }

    private static void fitsUnknown() {
        TryLoops x = new TryLoops();
        Due.is("nothing at all", x.fits(0, 0), -1);
        Due.aTry(x, 1, 1, 1, 2);
        Due.is("no loop", x.fits(0, 0), -1);
        x.fold(0);
        for (int number : EXTREMES) {
            Due.is("fits(" + number + ", 0)", x.fits(number, 0), -1);
            Due.is("fits(0, " + number + ")", x.fits(0, number), -1);
        }
        Due.is("fits(1, 0)", x.fits(1, 0), -1);
        Due.is("fits(0, 1)", x.fits(0, 1), -1);
        x.record();
        Due.steps(x, 1, 1);
        Due.is("the open one", x.fits(0, 1), -1);
        x.end();
        Due.is("now it is a try", x.fits(0, 1), 1);
        x.dropTry(0);
        x.dropTry(0);
        Due.is("no try", x.fits(0, 0), -1);
    }

    private static void fitsNone() {
        Due.is("another number in the turn 0", fit(0, 4, 1, 50), -5);
        Due.is("another last number", fit(0, 3, 1, 50, 0, 5, 1, 44), -5);
        Due.is("another verb in the turn 0", fit(3, 3, 1, 50), -5);
        Due.is("another last verb", fit(0, 3, 1, 50, 0, 5, 2, 45), -5);
        Due.is("the last of six turns", fit(0, 3, 1, 50, 0, 5, 1, 45, 0, 7, 1, 40, 0, 9, 1, 35, 0, 11, 1, 30, 0, 13, 1, 24), -5);
        // the try is shorter than the body
        TryLoops x = new TryLoops();
        Due.aTry(x, Due.times(12, 2, 1));
        Due.aTry(x, Due.times(12, 2, 1));
        Due.aTry(x, Due.times(11, 2, 1));
        x.generalise(0, 1);
        Due.is("11 of 12", x.fits(0, 2), -5);
    }

    private static int most(int verb, int number, int stride) {
        return Due.looped(new int[] {verb}, new int[] {number}, new int[] {stride}, 2).mostTurns(0);
    }

    private static void mostTurnsJustWithin() {
        int[] mosts = {29, 99, 99, 29, 29, 99};
        for (int verb = 0; verb < 6; verb++) {
            int top = mosts[verb];
            Due.is("from the least by 1", most(verb, 0, 1), top + 1);
            Due.is("from the most by -1", most(verb, top, -1), top + 1);
            Due.is("to the most just", most(verb, top - 20, 10), 3);
            Due.is("one short of it", most(verb, top - 21, 10), 3);
            Due.is("one beyond it", most(verb, top - 19, 10), 2);
            Due.is("to the least just", most(verb, 20, -10), 3);
            Due.is("one short of it", most(verb, 21, -10), 3);
            Due.is("one beyond it", most(verb, 19, -10), 2);
            Due.is("by the whole range", most(verb, 0, top), 2);
            Due.is("by the whole range down", most(verb, top, -top), 2);
        }
        TryLoops x = Due.looped(new int[] {1, 0, 5}, new int[] {0, 20, 90}, new int[] {1, -4, 3}, 2);
        Due.is("the least of 100, 6 and 4", x.mostTurns(0), 4);
        x.setTurns(0, 99);
        Due.is("its own turns do not matter", x.mostTurns(0), 4);
        Due.is("a play of so many ends by its turns", x.ifPlayed(0, 4, 1), 0);
        Due.is("a play of one more does not", x.ifPlayed(0, 5, 1), 1);
    }

    private static void mostTurnsFrom1() {
        // a loop is made of two turns that were done, so that none has fewer than two within
        Due.is("2", most(1, 0, 99), 2);
        Due.is("2", most(0, 14, 15), 2);
        // the numbers alone are the bound, not the turns that a loop may be given
        Due.is("99", most(2, 1, 1), 99);
        Due.is("100", most(2, 0, 1), 100);
    }

    private static void mostTurnsUnknown() {
        TryLoops x = new TryLoops();
        Due.is("none at all", x.mostTurns(0), -1);
        Due.aTry(x, 1, 1, 1, 2);
        x.fold(0);
        for (int loop : EXTREMES) {
            Due.is("mostTurns(" + loop + ")", x.mostTurns(loop), -1);
        }
        Due.is("one behind the last", x.mostTurns(1), -1);
    }

    private static void mostTurnsWithoutABound() {
        int[] mosts = {29, 99, 99, 29, 29, 99};
        for (int verb = 0; verb < 6; verb++) {
            Due.is("at the least", most(verb, 0, 0), -5);
            Due.is("at the most", most(verb, mosts[verb], 0), -5);
        }
        TryLoops x = Due.looped(new int[] {1, 2}, new int[] {99, 0}, new int[] {0, 0}, 2);
        Due.is("all of them", x.mostTurns(0), -5);
        TryLoops y = Due.looped(new int[] {1, 2, 1}, new int[] {99, 98, 99}, new int[] {0, 1, 0}, 2);
        Due.is("all but one", y.mostTurns(0), 2);
    }
}
