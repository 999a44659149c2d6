/** The boundary cases of tries: the terms, and promises 3, 4, 5, 18 and 20 (what 0). */
public final class TryEdgesTest {
    private static final int[] EXTREMES = {Integer.MIN_VALUE, -100, -2, -1, 6, 7, 100, Integer.MAX_VALUE};

    public static void main(String[] args) {
        terms();
        recordEndDrop();
        ofTryAndLength();
        Due.end();
    }

    private static void terms() {
        Edge.of("Terms", "When recording begins, an empty try is open", TryEdgesTest::anEmptyTryIsOpen);
        Edge.of("Terms", "each step that is done by step() is added to it, if it has fewer than 12 steps",
                TryEdgesTest::twelveStepsAreAdded);
        Edge.of("Terms", "each step that is done by step()", TryEdgesTest::whatIsNotDoneIsNotAdded);
        Edge.of("Terms", "(a test that fails, too)", TryEdgesTest::failingTestsAreAdded);
        Edge.of("Terms", "the open try is kept, if it has a step.", TryEdgesTest::oneStepIsEnough);
        Edge.of("Terms", "At most 6 tries are kept", TryEdgesTest::theSixthAndTheSeventh);
        Edge.of("Terms", "numbered from 0 in the order in which they were kept", TryEdgesTest::theirOrder);
        Edge.of("Terms", "when one is dropped, the numbers of those behind it become less by 1",
                TryEdgesTest::thoseBehindMoveUp);
    }

    private static void recordEndDrop() {
        Edge.of("Promise 3:", "Returns how many tries are kept", TryEdgesTest::recordAnswersHowMany);
        Edge.of("Promise 3:", "NOT_POSSIBLE if a try is open", TryEdgesTest::recordWhileOpen);
        Edge.of("Promise 3:", "FULL if 6 are kept", TryEdgesTest::recordWhileFull);
        Edge.of("Promise 4:", "Returns the number of the try that is kept", TryEdgesTest::endAnswersTheNumber);
        Edge.of("Promise 4:", "100 if it had no step (it is not kept then)", TryEdgesTest::endOfAnEmptyTry);
        Edge.of("Promise 4:", "NOT_POSSIBLE if no try is open", TryEdgesTest::endWithoutAnOpenTry);
        Edge.of("Promise 5:", "`number`: a try", TryEdgesTest::dropOfTheOpenTry);
        Edge.of("Promise 5:", "Returns how many tries are left", TryEdgesTest::dropAnswersHowMany);
        Edge.of("Promise 5:", "UNKNOWN", TryEdgesTest::dropOfUnknownTries);
    }

    private static void ofTryAndLength() {
        Edge.of("Promise 18:", "a try, or how many are kept: the one that is open", TryEdgesTest::ofTryOfTheOpenOne);
        Edge.of("Promise 18:", "a step of it, from 0 on", TryEdgesTest::ofTryFirstAndLastStep);
        Edge.of("Promise 18:", "0 for its verb, 1 for its number", TryEdgesTest::ofTryWhat);
        Edge.of("Promise 18:", "UNKNOWN (the try or the step)", TryEdgesTest::ofTryUnknown);
        Edge.of("Promise 18:", "OUT_OF_RANGE", TryEdgesTest::ofTryOutOfRange);
        Edge.of("Promise 20:", "0 for the steps of a try", TryEdgesTest::lengthOfTries);
        Edge.of("Promise 20:", "UNKNOWN if there is no such try (what 0)", TryEdgesTest::lengthOfUnknownTries);
    }

    private static TryLoops withTries(int count) {
        TryLoops x = new TryLoops();
        for (int i = 0; i < count; i++) {
            Due.is("a try is kept", Due.aTry(x, 1, 10 + i), i);
        }
        return x;
    }

    private static void anEmptyTryIsOpen() {
        TryLoops x = new TryLoops();
        x.record();
        Due.is("the first one", x.total(3), 0);
        Due.is("its step 0", x.ofTry(0, 0, 0), -1);
        Due.steps(x, Due.times(12, 2, 1));
        x.end();
        x.record();
        Due.is("after a full one", x.total(3), 0);
        Due.is("its step 0", x.ofTry(1, 0, 0), -1);
        Due.is("end()", x.end(), 100);
        x.dropTry(0);
        x.record();
        Due.is("where a full one was", x.total(3), 0);
        Due.is("its step 0", x.ofTry(0, 0, 0), -1);
        Due.steps(x, 1, 1);
        x.undo();
        x.undo();
        x.record();
        Due.is("after an undo of the earlier beginning", x.total(3), 0);
    }

    private static void twelveStepsAreAdded() {
        TryLoops x = new TryLoops();
        x.record();
        for (int i = 0; i < 12; i++) {
            Due.is("steps so far", x.total(3), i);
            Due.is("a step is done", x.step(1, i), i);
        }
        Due.is("steps so far", x.total(3), 12);
        Due.is("the thirteenth", x.step(1, 50), -3);
        Due.is("steps so far", x.total(3), 12);
        Due.is("end()", x.end(), 0);
        Due.is("length", x.length(0, 0), 12);
        Due.is("the first", x.ofTry(0, 0, 1), 0);
        Due.is("the twelfth", x.ofTry(0, 11, 1), 11);
        Due.is("no thirteenth", x.ofTry(0, 12, 1), -1);
    }

    private static void whatIsNotDoneIsNotAdded() {
        TryLoops x = new TryLoops();
        x.record();
        x.step(-1, 0);
        x.step(6, 0);
        x.step(0, 30);
        x.step(1, 100);
        x.step(5, -1);
        Due.is("refused steps", x.total(3), 0);
        Due.text(x, "w1");
        Due.is("perform()", x.perform(), -4);
        Due.is("a refused program", x.total(3), 0);
        Due.is("end()", x.end(), 100);
        Due.aTry(x, 1, 1, 1, 2);
        x.fold(0);
        x.record();
        Due.is("play(0)", x.play(0), -4);
        Due.is("a refused play", x.total(3), 0);
    }

    private static void failingTestsAreAdded() {
        TryLoops x = new TryLoops();
        Due.steps(x, 1, 50);
        x.record();
        Due.is("a test that fails", x.step(5, 49), 100);
        Due.is("steps so far", x.total(3), 1);
        Due.is("its verb", x.ofTry(0, 0, 0), 5);
        Due.is("its number", x.ofTry(0, 0, 1), 49);
        Due.steps(x, Due.times(10, 2, 1));
        Due.is("one that fails as the twelfth", x.step(5, 0), 100);
        Due.is("steps so far", x.total(3), 12);
        Due.is("one that would fail as the thirteenth", x.step(5, 0), -3);
        Due.is("tests failed", x.total(6), 2);
        Due.is("end()", x.end(), 0);
        Due.is("the twelfth", x.ofTry(0, 11, 0), 5);
        x.record();
        x.step(5, 0);
        Due.is("a failing test alone is a step", x.end(), 1);
    }

    private static void oneStepIsEnough() {
        TryLoops x = new TryLoops();
        x.record();
        Due.is("none is too few", x.end(), 100);
        Due.is("tries", x.total(2), 0);
        x.record();
        Due.steps(x, 0, 0);
        Due.is("one is enough", x.end(), 0);
        Due.is("tries", x.total(2), 1);
        x.record();
        Due.steps(x, 0, 0);
        x.undo();
        Due.is("one that was undone is none", x.end(), 100);
        Due.is("tries", x.total(2), 1);
    }

    private static void theSixthAndTheSeventh() {
        TryLoops x = withTries(5);
        Due.is("record() of the sixth", x.record(), 5);
        Due.steps(x, Due.times(12, 2, 1));
        Due.is("end() of the sixth", x.end(), 5);
        Due.is("tries", x.total(2), 6);
        Due.is("record() of a seventh", x.record(), -3);
        Due.is("nothing is open", x.total(3), -5);
        Due.is("length of the sixth", x.length(5, 0), 12);
        Due.is("its last step", x.ofTry(5, 11, 0), 2);
        Due.is("a step by itself is still done", x.step(2, 1), 27);
        Due.is("length of the sixth", x.length(5, 0), 12);
        Due.is("the first", x.ofTry(0, 0, 1), 10);
    }

    private static void theirOrder() {
        TryLoops x = withTries(6);
        for (int number = 0; number < 6; number++) {
            Due.is("number of try " + number, x.ofTry(number, 0, 1), 10 + number);
        }
        x.dropTry(0);
        Due.is("the next one is the last", Due.aTry(x, 1, 70), 5);
        Due.is("its number", x.ofTry(5, 0, 1), 70);
        Due.is("the one before it", x.ofTry(4, 0, 1), 15);
    }

    private static void thoseBehindMoveUp() {
        for (int dropped = 0; dropped < 6; dropped++) {
            TryLoops x = withTries(6);
            Due.is("dropTry(" + dropped + ")", x.dropTry(dropped), 5);
            for (int number = 0; number < 5; number++) {
                int due = number < dropped ? 10 + number : 11 + number;
                Due.is("try " + number + " without " + dropped, x.ofTry(number, 0, 1), due);
            }
            Due.is("there is no try 5", x.ofTry(5, 0, 1), -1);
        }
        for (int dropped = 0; dropped < 5; dropped++) {
            TryLoops x = withTries(5);
            x.record();
            Due.steps(x, Due.times(12, 2, 7));
            Due.is("dropTry(" + dropped + ") while one is open", x.dropTry(dropped), 4);
            Due.is("the open one's first verb", x.ofTry(4, 0, 0), 2);
            Due.is("the open one's last verb", x.ofTry(4, 11, 0), 2);
            Due.is("the open one's last number", x.ofTry(4, 11, 1), 7);
            Due.is("steps of the open one", x.total(3), 12);
            Due.is("it is no longer there", x.ofTry(5, 0, 1), -1);
            Due.is("end()", x.end(), 4);
        }
    }

    private static void recordAnswersHowMany() {
        TryLoops x = new TryLoops();
        for (int kept = 0; kept < 6; kept++) {
            Due.is("record()", x.record(), kept);
            Due.is("end() of an empty one", x.end(), 100);
            Due.is("record() once more", x.record(), kept);
            Due.steps(x, 1, 1);
            Due.is("end()", x.end(), kept);
        }
        x.dropTry(3);
        x.dropTry(0);
        Due.is("record()", x.record(), 4);
    }

    private static void recordWhileOpen() {
        TryLoops x = withTries(5);
        Due.is("record()", x.record(), 5);
        Due.is("an empty one is open", x.record(), -4);
        Due.steps(x, 1, 1);
        Due.is("one of a step is open", x.record(), -4);
        Due.is("its step stays", x.total(3), 1);
        Due.steps(x, Due.times(11, 2, 1));
        Due.is("a full one is open", x.record(), -4);
        Due.is("its steps stay", x.total(3), 12);
    }

    private static void recordWhileFull() {
        TryLoops x = withTries(6);
        Due.is("6 are kept", x.record(), -3);
        Due.is("again", x.record(), -3);
        Due.is("states", x.total(10), 4);
        Due.is("undo() of the sixth end", x.undo(), 3);
        Due.is("it is open", x.record(), -4);
        Due.is("end()", x.end(), 5);
        Due.is("6 are kept", x.record(), -3);
        x.dropTry(5);
        Due.is("5 are kept", x.record(), 5);
    }

    private static void endAnswersTheNumber() {
        TryLoops x = new TryLoops();
        for (int number = 0; number < 6; number++) {
            x.record();
            Due.steps(x, 1, 20 + number);
            Due.is("end()", x.end(), number);
        }
        x.dropTry(0);
        x.record();
        Due.steps(x, 1, 30);
        x.dropTry(0);
        Due.is("end() after two were dropped", x.end(), 4);
        Due.is("it is the last one", x.ofTry(4, 0, 1), 30);
    }

    private static void endOfAnEmptyTry() {
        TryLoops x = withTries(5);
        x.record();
        Due.is("end()", x.end(), 100);
        Due.is("tries", x.total(2), 5);
        Due.is("nothing is open", x.total(3), -5);
        Due.is("try 5", x.length(5, 0), -1);
        Due.is("undo() of the end", x.undo(), 3);
        Due.is("it is open again", x.total(3), 0);
    }

    private static void endWithoutAnOpenTry() {
        TryLoops x = new TryLoops();
        Due.is("none was open", x.end(), -4);
        x.record();
        x.end();
        Due.is("an empty one was open", x.end(), -4);
        Due.aTry(x, 1, 1);
        Due.is("one was kept", x.end(), -4);
        Due.is("tries", x.total(2), 1);
        TryLoops y = withTries(6);
        Due.is("6 are kept", y.end(), -4);
    }

    private static void dropOfTheOpenTry() {
        TryLoops x = new TryLoops();
        x.record();
        Due.steps(x, 1, 1);
        Due.is("dropTry(0), the open one", x.dropTry(0), -1);
        Due.is("it is still open", x.total(3), 1);
        x.end();
        Due.is("now it is a try", x.dropTry(0), 0);
    }

    private static void dropAnswersHowMany() {
        TryLoops x = withTries(6);
        for (int left = 5; left >= 0; left--) {
            Due.is("dropTry of the last", x.dropTry(left), left);
            Due.is("tries", x.total(2), left);
        }
        TryLoops y = withTries(6);
        for (int left = 5; left >= 0; left--) {
            Due.is("dropTry of the first", y.dropTry(0), left);
        }
        Due.is("none is left", y.dropTry(0), -1);
    }

    private static void dropOfUnknownTries() {
        for (int kept = 0; kept <= 6; kept++) {
            TryLoops x = withTries(kept);
            Due.is("one behind the last of " + kept, x.dropTry(kept), -1);
            for (int number : EXTREMES) {
                Due.is("dropTry(" + number + ")", x.dropTry(number), -1);
            }
            Due.is("tries", x.total(2), kept);
        }
    }

    private static void ofTryOfTheOpenOne() {
        for (int kept = 0; kept < 6; kept++) {
            TryLoops x = withTries(kept);
            Due.is("nothing is open", x.ofTry(kept, 0, 0), -1);
            x.record();
            Due.is("the open one is empty", x.ofTry(kept, 0, 0), -1);
            Due.steps(x, 4, 29);
            Due.is("its verb", x.ofTry(kept, 0, 0), 4);
            Due.is("its number", x.ofTry(kept, 0, 1), 29);
            Due.is("behind it", x.ofTry(kept + 1, 0, 0), -1);
            x.end();
            Due.is("the same as a try", x.ofTry(kept, 0, 1), 29);
            Due.is("behind it", x.ofTry(kept + 1, 0, 0), -1);
        }
    }

    private static void ofTryFirstAndLastStep() {
        TryLoops x = new TryLoops();
        x.record();
        for (int i = 0; i < 12; i++) {
            Due.steps(x, 1, 30 + i);
        }
        x.end();
        for (int i = 0; i < 12; i++) {
            Due.is("step " + i, x.ofTry(0, i, 1), 30 + i);
        }
        Due.is("step 12", x.ofTry(0, 12, 1), -1);
        Due.is("step -1", x.ofTry(0, -1, 1), -1);
        // a longer try stood behind it, but this one has a step alone
        Due.aTry(x, 2, 1);
        Due.aTry(x, Due.times(12, 3, 1));
        x.dropTry(0);
        Due.is("step 0 of one", x.ofTry(0, 0, 0), 2);
        Due.is("step 1 of one", x.ofTry(0, 1, 0), -1);
    }

    private static void ofTryWhat() {
        int[] most = {29, 99, 99, 29, 29, 99};
        for (int verb = 0; verb < 6; verb++) {
            TryLoops x = new TryLoops();
            Due.aTry(x, verb, 0, verb, most[verb]);
            Due.is("verb of the least", x.ofTry(0, 0, 0), verb);
            Due.is("the least number", x.ofTry(0, 0, 1), 0);
            Due.is("verb of the most", x.ofTry(0, 1, 0), verb);
            Due.is("the greatest number", x.ofTry(0, 1, 1), most[verb]);
        }
    }

    private static void ofTryUnknown() {
        TryLoops x = withTries(3);
        for (int number : EXTREMES) {
            Due.is("ofTry(" + number + ", 0, 0)", x.ofTry(number, 0, 0), -1);
            Due.is("ofTry(0, " + number + ", 0)", x.ofTry(0, number, 0), -1);
        }
        Due.is("ofTry(3, 0, 0)", x.ofTry(3, 0, 0), -1);
        Due.is("ofTry(2, 1, 0)", x.ofTry(2, 1, 0), -1);
        x.record();
        for (int number : EXTREMES) {
            Due.is("ofTry(" + number + ", 0, 0), one is open", x.ofTry(number, 0, 0), -1);
            Due.is("ofTry(3, " + number + ", 0), the open one", x.ofTry(3, number, 0), -1);
        }
        Due.is("ofTry(4, 0, 0)", x.ofTry(4, 0, 0), -1);
    }

    private static void ofTryOutOfRange() {
        TryLoops x = withTries(1);
        int[] wrong = {Integer.MIN_VALUE, -1, 2, 3, Integer.MAX_VALUE};
        for (int what : wrong) {
            Due.is("ofTry(0, 0, " + what + ")", x.ofTry(0, 0, what), -2);
        }
        x.record();
        Due.steps(x, 1, 1);
        for (int what : wrong) {
            Due.is("ofTry(1, 0, " + what + ") of the open one", x.ofTry(1, 0, what), -2);
        }
    }

    private static void lengthOfTries() {
        for (int steps = 1; steps <= 12; steps++) {
            TryLoops x = new TryLoops();
            Due.aTry(x, Due.times(steps, 2, 3));
            Due.is("length of a try of " + steps, x.length(0, 0), steps);
        }
    }

    private static void lengthOfUnknownTries() {
        for (int kept = 0; kept <= 6; kept++) {
            TryLoops x = withTries(kept);
            Due.is("one behind the last of " + kept, x.length(kept, 0), -1);
            for (int number : EXTREMES) {
                Due.is("length(" + number + ", 0)", x.length(number, 0), -1);
            }
            if (kept < 6) {
                x.record();
                Due.steps(x, 1, 1);
                Due.is("the open one is no try yet", x.length(kept, 0), -1);
            }
        }
    }
}
