import java.util.function.ToIntFunction;

/** The boundary cases of errors: which one is told, and that none of them changes anything. */
public final class ErrorEdgesTest {
    private static final int UNKNOWN = TryLoops.UNKNOWN;
    private static final int OUT_OF_RANGE = TryLoops.OUT_OF_RANGE;
    private static final int FULL = TryLoops.FULL;
    private static final int NOT_POSSIBLE = TryLoops.NOT_POSSIBLE;
    private static final int NONE = TryLoops.NONE;

    public static void main(String[] args) {
        constants();
        Edge.of("Terms", "If several errors apply, the one that stands first in the @return line is returned.",
                ErrorEdgesTest::theFirstOfSeveral);
        Edge.of("Terms", "NONE is not an error; it is returned only if no error applies.",
                ErrorEdgesTest::noneOnlyWithoutAnError);
        Edge.of("Terms", "A method that returns an error or NONE changes nothing.", ErrorEdgesTest::nothingIsChanged);
        Due.end();
    }

    private static void constants() {
        Edge.of("Terms", "`UNKNOWN = -1`", () -> Due.is("UNKNOWN", UNKNOWN, -1));
        Edge.of("Terms", "`OUT_OF_RANGE = -2`", () -> Due.is("OUT_OF_RANGE", OUT_OF_RANGE, -2));
        Edge.of("Terms", "`FULL = -3`", () -> Due.is("FULL", FULL, -3));
        Edge.of("Terms", "`NOT_POSSIBLE = -4`", () -> Due.is("NOT_POSSIBLE", NOT_POSSIBLE, -4));
        Edge.of("Terms", "`NONE = -5`", () -> Due.is("NONE", NONE, -5));
        Edge.of("Terms", "There is no such cell, verb, try, step or loop.", ErrorEdgesTest::eachUnknown);
        Edge.of("Terms", "Another argument is out of its range.", ErrorEdgesTest::eachOutOfRange);
        Edge.of("Terms", "There is no more room.", ErrorEdgesTest::eachFull);
        Edge.of("Terms", "This is not possible in the present state.", ErrorEdgesTest::eachNotPossible);
        Edge.of("Terms", "There is no such thing; this is not an error.", ErrorEdgesTest::eachNone);
    }

    // ---- objects to ask

    /** Two tries that can be generalised and one of a step alone, and two loops. */
    private static TryLoops some() {
        TryLoops x = new TryLoops();
        Due.aTry(x, 1, 3, 1, 5);
        Due.aTry(x, 1, 4, 1, 6);
        Due.aTry(x, 2, 1);
        x.generalise(0, 1);
        x.fold(0);
        Due.text(x, "w9;2(a1)");
        return x;
    }

    /** The same, and a try is open that has twelve steps. */
    private static TryLoops withAFullTry() {
        TryLoops x = some();
        x.record();
        Due.steps(x, Due.times(12, 2, 1));
        return x;
    }

    /** The same as some, and there are six tries and six loops. */
    private static TryLoops withAllThereCanBe() {
        TryLoops x = some();
        for (int i = 3; i < 6; i++) {
            Due.aTry(x, 0, i);
        }
        for (int i = 2; i < 6; i++) {
            x.fold(1);
        }
        return x;
    }

    // ---- which error

    private static void eachUnknown() {
        TryLoops x = some();
        Due.is("no such cell", x.cell(30), UNKNOWN);
        Due.is("no such verb", x.step(6, 0), UNKNOWN);
        Due.is("no such try", x.dropTry(3), UNKNOWN);
        Due.is("no such step", x.ofTry(0, 2, 0), UNKNOWN);
        Due.is("no such step of a body", x.ofLoop(0, 2, 0), UNKNOWN);
        Due.is("no such loop", x.dropLoop(2), UNKNOWN);
        Due.is("no such cell to leave a value in", x.fewestTurns(0, 30, 0), UNKNOWN);
        Due.is("a cell as a number of a step is none of these", x.step(0, 30), OUT_OF_RANGE);
        Due.is("a cell to copy, too", x.step(3, 30), OUT_OF_RANGE);
        Due.is("a cell to swap with, too", x.step(4, -1), OUT_OF_RANGE);
    }

    private static void eachOutOfRange() {
        TryLoops x = some();
        Due.is("step", x.step(1, 100), OUT_OF_RANGE);
        Due.is("setTurns", x.setTurns(0, 0), OUT_OF_RANGE);
        Due.is("ofTry", x.ofTry(0, 0, 2), OUT_OF_RANGE);
        Due.is("ofLoop", x.ofLoop(0, 0, 4), OUT_OF_RANGE);
        Due.is("length", x.length(0, 3), OUT_OF_RANGE);
        Due.is("total", x.total(12), OUT_OF_RANGE);
        Due.is("alike", x.alike(0, 1, 2), OUT_OF_RANGE);
        Due.is("bestPair", x.bestPair(2), OUT_OF_RANGE);
        Due.is("ifPlayed, turns", x.ifPlayed(0, 100, 0), OUT_OF_RANGE);
        Due.is("ifPlayed, what", x.ifPlayed(0, 1, 5), OUT_OF_RANGE);
        Due.is("fewestTurns", x.fewestTurns(0, 0, 100), OUT_OF_RANGE);
    }

    private static void eachFull() {
        Due.is("step", withAFullTry().step(1, 1), FULL);
        TryLoops x = withAllThereCanBe();
        Due.is("record", x.record(), FULL);
        Due.is("generalise", x.generalise(0, 1), FULL);
        Due.is("fold", x.fold(0), FULL);
        for (int i = x.total(11); i < 60; i++) {
            x.type(' ');
        }
        Due.is("type", x.type(' '), FULL);
    }

    private static void eachNotPossible() {
        TryLoops x = some();
        Due.is("end", x.end(), NOT_POSSIBLE);
        Due.is("generalise", x.generalise(0, 2), NOT_POSSIBLE);
        Due.is("fold", x.fold(2), NOT_POSSIBLE);
        x.record();
        Due.is("record", x.record(), NOT_POSSIBLE);
        Due.is("play", x.play(0), NOT_POSSIBLE);
        Due.is("perform", x.perform(), NOT_POSSIBLE);
    }

    private static void eachNone() {
        TryLoops x = some();
        Due.is("setTurns", x.setTurns(0, 2), NONE);
        Due.is("restore", x.restore(), NONE);
        Due.is("total(3)", x.total(3), NONE);
        Due.is("total(8)", x.total(8), NONE);
        Due.is("fits", x.fits(0, 2), NONE);
        Due.is("fewestTurns", x.fewestTurns(0, 0, 4), NONE);
        x.dropTry(0);
        Due.is("bestPair", x.bestPair(1), NONE);
        for (int i = 0; i < 4; i++) {
            x.undo();
        }
        Due.is("undo", x.undo(), NONE);
        TryLoops y = Due.looped(new int[] {1}, new int[] {5}, new int[] {0}, 2);
        Due.is("mostTurns", y.mostTurns(0), NONE);
    }

    private static void theFirstOfSeveral() {
        TryLoops full = withAFullTry();
        Due.is("step: UNKNOWN ahead of OUT_OF_RANGE and FULL", full.step(6, 100), UNKNOWN);
        Due.is("step: UNKNOWN ahead of OUT_OF_RANGE and FULL", full.step(-1, -1), UNKNOWN);
        Due.is("step: UNKNOWN ahead of FULL", full.step(6, 0), UNKNOWN);
        Due.is("step: OUT_OF_RANGE ahead of FULL", full.step(0, 30), OUT_OF_RANGE);
        Due.is("step: OUT_OF_RANGE ahead of FULL", full.step(5, -1), OUT_OF_RANGE);
        Due.is("step: FULL", full.step(0, 29), FULL);
        Due.is("play: UNKNOWN ahead of NOT_POSSIBLE", full.play(2), UNKNOWN);
        Due.is("play: UNKNOWN ahead of NOT_POSSIBLE", full.play(-1), UNKNOWN);
        Due.is("play: NOT_POSSIBLE", full.play(1), NOT_POSSIBLE);
        Due.is("perform: NOT_POSSIBLE", full.perform(), NOT_POSSIBLE);
        full.type('x');
        Due.is("perform: the fault ahead of NOT_POSSIBLE", full.perform(), -108);

        TryLoops all = withAllThereCanBe();
        Due.is("generalise: UNKNOWN ahead of FULL", all.generalise(0, 6), UNKNOWN);
        Due.is("generalise: UNKNOWN ahead of FULL", all.generalise(-1, 1), UNKNOWN);
        Due.is("generalise: UNKNOWN ahead of NOT_POSSIBLE and FULL", all.generalise(6, 6), UNKNOWN);
        Due.is("generalise: NOT_POSSIBLE ahead of FULL", all.generalise(0, 2), NOT_POSSIBLE);
        Due.is("generalise: NOT_POSSIBLE ahead of FULL", all.generalise(1, 1), NOT_POSSIBLE);
        Due.is("generalise: FULL", all.generalise(1, 0), FULL);
        Due.is("fold: UNKNOWN ahead of FULL", all.fold(6), UNKNOWN);
        Due.is("fold: NOT_POSSIBLE ahead of FULL", all.fold(2), NOT_POSSIBLE);
        Due.is("fold: FULL", all.fold(0), FULL);
        theFirstOfTwo();
    }

    private static void theFirstOfTwo() {
        TryLoops x = some();
        int[] outOfRange = {Integer.MIN_VALUE, -1, 100, Integer.MAX_VALUE};
        for (int wrong : outOfRange) {
            Due.is("setTurns: UNKNOWN first", x.setTurns(2, wrong), UNKNOWN);
            Due.is("ofTry: UNKNOWN, the try, first", x.ofTry(3, 0, wrong), UNKNOWN);
            Due.is("ofTry: UNKNOWN, the step, first", x.ofTry(0, 2, wrong), UNKNOWN);
            Due.is("ofLoop: UNKNOWN, the loop, first", x.ofLoop(2, 0, wrong), UNKNOWN);
            Due.is("ofLoop: UNKNOWN, the step, first", x.ofLoop(0, 2, wrong), UNKNOWN);
            Due.is("length: OUT_OF_RANGE first", x.length(9, wrong), OUT_OF_RANGE);
            Due.is("alike: UNKNOWN, one, first", x.alike(3, 0, wrong), UNKNOWN);
            Due.is("alike: UNKNOWN, other, first", x.alike(0, 3, wrong), UNKNOWN);
            Due.is("ifPlayed: UNKNOWN ahead of the turns", x.ifPlayed(2, wrong, 0), UNKNOWN);
            Due.is("ifPlayed: UNKNOWN ahead of what", x.ifPlayed(2, 1, wrong), UNKNOWN);
            Due.is("fewestTurns: UNKNOWN, the loop, first", x.fewestTurns(2, 0, wrong), UNKNOWN);
            Due.is("fewestTurns: UNKNOWN, the cell, first", x.fewestTurns(0, 30, wrong), UNKNOWN);
        }
    }

    private static void noneOnlyWithoutAnError() {
        TryLoops x = new TryLoops();
        Due.is("bestPair of no pair, but of a wrong what", x.bestPair(2), OUT_OF_RANGE);
        Due.is("bestPair of no pair", x.bestPair(1), NONE);
        Due.is("mostTurns of no loop", x.mostTurns(0), UNKNOWN);
        Due.is("fits of nothing", x.fits(0, 0), UNKNOWN);
        TryLoops y = some();
        Due.is("setTurns of as many, of no loop", y.setTurns(2, 2), UNKNOWN);
        Due.is("setTurns of as many", y.setTurns(1, 2), NONE);
        Due.is("fits of a try that does not, of no loop", y.fits(2, 2), UNKNOWN);
        Due.is("fits of a try that does not", y.fits(1, 2), NONE);
        Due.is("fewestTurns that are none, of no loop", y.fewestTurns(2, 0, 4), UNKNOWN);
        Due.is("fewestTurns that are none, of no cell", y.fewestTurns(0, 30, 4), UNKNOWN);
        Due.is("fewestTurns that are none, of no value", y.fewestTurns(0, 0, 100), OUT_OF_RANGE);
        Due.is("fewestTurns that are none", y.fewestTurns(0, 0, 4), NONE);
    }

    // ---- that nothing is changed

    private enum From { SOME, OPEN, ALL, NEW }

    private static TryLoops made(From from) {
        switch (from) {
            case SOME:
                return some();
            case OPEN:
                return withAFullTry();
            case ALL:
                return withAllThereCanBe();
            default:
                return new TryLoops();
        }
    }

    /** Two objects are made alike; the call is done on one of them, and all is the same after it. */
    private static void same(From from, String call, int due, ToIntFunction<TryLoops> asked) {
        same(call, made(from), made(from), due, asked);
        if (due != NONE) {
            same(call + " with a snapshot", withASnapshot(from), withASnapshot(from), due, asked);
        }
    }

    private static TryLoops withASnapshot(From from) {
        TryLoops x = made(from);
        x.keep();
        x.step(0, 9);
        return x;
    }

    private static void same(String call, TryLoops x, TryLoops y, int due, ToIntFunction<TryLoops> asked) {
        Due.is(call, asked.applyAsInt(x), due);
        String is = Picture.ofAll(x);
        String was = Picture.ofAll(y);
        Due.holds("nothing is changed by " + call, is.equals(was));
    }

    private static void nothingIsChanged() {
        errorsOfSteps();
        errorsOfLoops();
        errorsOfTexts();
        errorsOfQuestions();
    }

    private static void errorsOfSteps() {
        same(From.SOME, "step of no verb", UNKNOWN, x -> x.step(6, 0));
        same(From.SOME, "step out of range", OUT_OF_RANGE, x -> x.step(0, 30));
        same(From.SOME, "step below its range", OUT_OF_RANGE, x -> x.step(4, -1));
        same(From.OPEN, "step of no verb while open", UNKNOWN, x -> x.step(-1, 0));
        same(From.OPEN, "step out of range while open", OUT_OF_RANGE, x -> x.step(1, 100));
        same(From.OPEN, "go while full", FULL, x -> x.step(0, 5));
        same(From.OPEN, "write while full", FULL, x -> x.step(1, 5));
        same(From.OPEN, "a test that would fail while full", FULL, x -> x.step(5, 0));
        same(From.OPEN, "record while open", NOT_POSSIBLE, TryLoops::record);
        same(From.ALL, "record while full", FULL, TryLoops::record);
        same(From.SOME, "end of none", NOT_POSSIBLE, TryLoops::end);
        same(From.NEW, "end of none ever", NOT_POSSIBLE, TryLoops::end);
        same(From.SOME, "dropTry behind the last", UNKNOWN, x -> x.dropTry(3));
        same(From.ALL, "dropTry(6)", UNKNOWN, x -> x.dropTry(6));
        same(From.OPEN, "dropTry of the open one", UNKNOWN, x -> x.dropTry(3));
        same(From.NEW, "dropTry of none", UNKNOWN, x -> x.dropTry(0));
    }

    private static void errorsOfLoops() {
        same(From.SOME, "generalise of none", UNKNOWN, x -> x.generalise(0, 3));
        same(From.OPEN, "generalise of the open one", UNKNOWN, x -> x.generalise(2, 3));
        same(From.SOME, "generalise of one alone", NOT_POSSIBLE, x -> x.generalise(0, 0));
        same(From.SOME, "generalise of others", NOT_POSSIBLE, x -> x.generalise(0, 2));
        same(From.ALL, "generalise while full", FULL, x -> x.generalise(0, 1));
        same(From.SOME, "fold of none", UNKNOWN, x -> x.fold(3));
        same(From.SOME, "fold of a step alone", NOT_POSSIBLE, x -> x.fold(2));
        same(From.ALL, "fold while full", FULL, x -> x.fold(0));
        same(From.SOME, "setTurns of none", UNKNOWN, x -> x.setTurns(2, 9));
        same(From.SOME, "setTurns of 0", OUT_OF_RANGE, x -> x.setTurns(0, 0));
        same(From.SOME, "setTurns of 100", OUT_OF_RANGE, x -> x.setTurns(0, 100));
        same(From.SOME, "setTurns of as many", NONE, x -> x.setTurns(0, 2));
        same(From.SOME, "dropLoop of none", UNKNOWN, x -> x.dropLoop(2));
        same(From.ALL, "dropLoop(6)", UNKNOWN, x -> x.dropLoop(6));
        same(From.SOME, "play of none", UNKNOWN, x -> x.play(2));
        same(From.OPEN, "play while open", NOT_POSSIBLE, x -> x.play(0));
    }

    private static void errorsOfTexts() {
        same(From.OPEN, "perform while open", NOT_POSSIBLE, TryLoops::perform);
        same(From.NEW, "perform of the empty text", -100, TryLoops::perform);
        TryLoops x = some();
        TryLoops y = some();
        Due.text(x, "w9;w8;9(w7,g9+1);g30");
        Due.text(y, "w9;w8;9(w7,g9+1);g30");
        same("perform of a fault at its end", x, y, -119, TryLoops::perform);
        TryLoops full = new TryLoops();
        TryLoops other = new TryLoops();
        Due.text(full, "a1;".repeat(19) + "a11");
        Due.text(other, "a1;".repeat(19) + "a11");
        same("type of a 61st", full, other, FULL, z -> z.type('1'));
    }

    private static void errorsOfQuestions() {
        same(From.NEW, "undo of nothing", NONE, TryLoops::undo);
        same(From.SOME, "restore of nothing", NONE, TryLoops::restore);
        same(From.OPEN, "restore of nothing while open", NONE, TryLoops::restore);
        same(From.SOME, "cell(30)", UNKNOWN, x -> x.cell(30));
        same(From.SOME, "ofTry of none", UNKNOWN, x -> x.ofTry(3, 0, 0));
        same(From.SOME, "ofTry out of range", OUT_OF_RANGE, x -> x.ofTry(0, 0, 2));
        same(From.SOME, "ofLoop of none", UNKNOWN, x -> x.ofLoop(2, 0, 0));
        same(From.SOME, "ofLoop out of range", OUT_OF_RANGE, x -> x.ofLoop(0, 0, 4));
        same(From.SOME, "length of none", UNKNOWN, x -> x.length(3, 0));
        same(From.SOME, "length out of range", OUT_OF_RANGE, x -> x.length(0, 3));
        same(From.SOME, "total out of range", OUT_OF_RANGE, x -> x.total(12));
        same(From.SOME, "total of none", NONE, x -> x.total(8));
        same(From.SOME, "alike of none", UNKNOWN, x -> x.alike(0, 3, 0));
        same(From.SOME, "alike out of range", OUT_OF_RANGE, x -> x.alike(0, 1, 2));
        same(From.SOME, "bestPair out of range", OUT_OF_RANGE, x -> x.bestPair(-1));
        same(From.NEW, "bestPair of none", NONE, x -> x.bestPair(0));
        same(From.SOME, "fits of none", UNKNOWN, x -> x.fits(2, 0));
        same(From.SOME, "fits that does not", NONE, x -> x.fits(0, 2));
        same(From.SOME, "mostTurns of none", UNKNOWN, x -> x.mostTurns(2));
        same(From.SOME, "ifPlayed of none", UNKNOWN, x -> x.ifPlayed(2, 1, 0));
        same(From.SOME, "ifPlayed out of range", OUT_OF_RANGE, x -> x.ifPlayed(0, 100, 0));
        same(From.SOME, "fewestTurns of none", UNKNOWN, x -> x.fewestTurns(2, 0, 0));
        same(From.SOME, "fewestTurns out of range", OUT_OF_RANGE, x -> x.fewestTurns(0, 0, 100));
        same(From.SOME, "fewestTurns that are none", NONE, x -> x.fewestTurns(0, 0, 4));
    }
}
