/** The boundary cases of plays: the terms, and promises 10, 26 and 27. */
public final class PlayEdgesTest {
    private static final int[] MOST = {29, 99, 99, 29, 29, 99};
    private static final int[] EXTREMES = {Integer.MIN_VALUE, -100, -2, -1, 6, 7, 100, Integer.MAX_VALUE};

    public static void main(String[] args) {
        terms();
        play();
        ifPlayed();
        fewestTurns();
        Due.end();
    }

    private static void terms() {
        Edge.of("Terms", "To play a loop means to do the steps of its turns one after the other.",
                PlayEdgesTest::turnsAreDoneInOrder);
        Edge.of("Terms", "by reason 0 when all turns are done", PlayEdgesTest::allTurnsAreDone);
        Edge.of("Terms", "by reason 1 as soon as a step would have a number that is not in the range of its verb",
                PlayEdgesTest::justBeyondEachRange);
        Edge.of("Terms", "(the step is not done)", PlayEdgesTest::theStepBeyondIsNotDone);
        Edge.of("Terms", "by reason 2 as soon as a test fails", PlayEdgesTest::asSoonAsATestFails);
        Edge.of("Terms", "(the test counts as a step that was done)", PlayEdgesTest::theTestThatFailsCounts);
    }

    private static void play() {
        Edge.of("Promise 10:", "Plays a loop. This is a change.", PlayEdgesTest::itsOwnTurns);
        Edge.of("Promise 10:", "Returns how many steps are done", PlayEdgesTest::theFewestAndTheMostSteps);
        Edge.of("Promise 10:", "UNKNOWN", PlayEdgesTest::playUnknown);
        Edge.of("Promise 10:", "NOT_POSSIBLE if a try is open", PlayEdgesTest::playWhileOpen);
    }

    private static void ifPlayed() {
        Edge.of("Promise 26:", "1 to 99: in place of its own", PlayEdgesTest::ifPlayedTurns);
        Edge.of("Promise 26:", "0 for the steps that would be done", PlayEdgesTest::ifPlayedSteps);
        Edge.of("Promise 26:", "1 for the reason by which it would end", PlayEdgesTest::ifPlayedReasons);
        Edge.of("Promise 26:", "2 for the sum of all cells", PlayEdgesTest::ifPlayedSum);
        Edge.of("Promise 26:", "3 for the cell of the hand", PlayEdgesTest::ifPlayedHand);
        Edge.of("Promise 26:", "4 for the tests that would be passed", PlayEdgesTest::ifPlayedTests);
        Edge.of("Promise 26:", "UNKNOWN", PlayEdgesTest::ifPlayedUnknown);
        Edge.of("Promise 26:", "OUT_OF_RANGE", PlayEdgesTest::ifPlayedOutOfRange);
        Edge.of("Terms", "what would be; nothing changes", PlayEdgesTest::nothingChanges);
    }

    private static void fewestTurns() {
        Edge.of("Promise 27:", "Finds the fewest turns of a loop that leave a value in a cell.",
                PlayEdgesTest::whatIsLeftNotWhatComesAndGoes);
        Edge.of("Promise 27:", "`cell`: 0 to 29", PlayEdgesTest::fewestTurnsCells);
        Edge.of("Promise 27:", "`value`: 0 to 99", PlayEdgesTest::fewestTurnsValues);
        Edge.of("Promise 27:", "Returns the turns, 1 to 99", PlayEdgesTest::theFirstAndThe99thTurn);
        Edge.of("Promise 27:", "UNKNOWN (loop or cell)", PlayEdgesTest::fewestTurnsUnknown);
        Edge.of("Promise 27:", "OUT_OF_RANGE", PlayEdgesTest::fewestTurnsValues);
        Edge.of("Promise 27:", "NONE if there are none", PlayEdgesTest::noTurnsLeaveIt);
    }

    /** A loop of a single step, with the row at zeros again and the hand at 0. */
    private static TryLoops single(int verb, int number, int stride, int turns) {
        return cleared(Due.looped(new int[] {verb}, new int[] {number}, new int[] {stride}, turns));
    }

    private static TryLoops cleared(TryLoops x) {
        Due.is("the row is cleared", Due.perform(x, "30(g0+1,w0);g0"), 61);
        return x;
    }

    private static void turnsAreDoneInOrder() {
        // a copy of what the turn before has written; then a swap ahead
        TryLoops x = cleared(Due.looped(new int[] {0, 3, 2}, new int[] {1, 0, 1}, new int[] {1, 1, 0}, 3));
        Due.steps(x, 1, 5);
        Due.is("play(0)", x.play(0), 9);
        Due.is("cell(1)", x.cell(1), 6);
        Due.is("cell(2)", x.cell(2), 7);
        Due.is("cell(3)", x.cell(3), 8);
        Due.is("cell(4)", x.cell(4), 0);
    }

    private static void allTurnsAreDone() {
        // the number of the next turn alone would be out of its range
        for (int verb = 0; verb < 6; verb++) {
            TryLoops up = single(verb, MOST[verb] - 1, 1, 2);
            Due.is("up to the most of verb " + verb, up.play(0), 2);
            Due.is("reason", up.total(8), 0);
            TryLoops down = single(verb, 1, -1, 2);
            Due.is("down to the least of verb " + verb, down.play(0), 2);
            Due.is("reason", down.total(8), 0);
        }
        TryLoops x = single(5, 0, 0, 99);
        Due.is("99 tests that are passed", x.play(0), 99);
        Due.is("reason", x.total(8), 0);
    }

    private static void justBeyondEachRange() {
        for (int verb = 0; verb < 6; verb++) {
            TryLoops up = single(verb, MOST[verb] - 1, 1, 3);
            Due.is("above the most of verb " + verb, up.play(0), 2);
            Due.is("reason", up.total(8), 1);
            TryLoops down = single(verb, 1, -1, 3);
            Due.is("below the least of verb " + verb, down.play(0), 2);
            Due.is("reason", down.total(8), 1);
        }
        TryLoops x = single(1, 0, 99, 99);
        Due.is("far above", x.play(0), 2);
        Due.is("reason", x.total(8), 1);
        TryLoops y = single(1, 99, -99, 99);
        Due.is("far below", y.play(0), 2);
        Due.is("reason", y.total(8), 1);
    }

    private static void theStepBeyondIsNotDone() {
        TryLoops x = single(1, 97, 1, 4);
        int before = x.total(5);
        Due.is("write 97, 98, 99", x.play(0), 3);
        Due.is("cell(0)", x.cell(0), 99);
        Due.is("steps done", x.total(5), before + 3);
        TryLoops go = single(0, 27, 1, 4);
        go.play(0);
        Due.is("hand", go.total(0), 29);
        // a test that is beyond its range would fail, but is not done
        TryLoops test = single(5, 1, -1, 3);
        Due.is("tests of a 0", test.play(0), 2);
        Due.is("reason", test.total(8), 1);
        Due.is("tests failed", test.total(6), 0);
        // the steps behind it in its turn are not done either
        TryLoops y = cleared(Due.looped(new int[] {2, 1, 2}, new int[] {1, 98, 5}, new int[] {0, 1, 0}, 3));
        Due.is("add, write, add, twice, and an add", y.play(0), 7);
        Due.is("cell(0): 99 and 5 and 1", y.cell(0), 5);
    }

    private static void asSoonAsATestFails() {
        TryLoops x = cleared(Due.looped(new int[] {2, 5, 2}, new int[] {1, 2, 0}, new int[] {0, 0, 0}, 9));
        Due.is("the value 3 is above 2", x.play(0), 8);
        Due.is("reason", x.total(8), 2);
        Due.is("cell(0)", x.cell(0), 3);
        TryLoops y = cleared(Due.looped(new int[] {2, 5, 2}, new int[] {1, 3, 0}, new int[] {0, 0, 0}, 3));
        Due.is("the value 3 is not above 3", y.play(0), 9);
        Due.is("reason", y.total(8), 0);
        // the test fails, and the step behind it would be out of its range
        TryLoops z = cleared(Due.looped(new int[] {5, 1}, new int[] {99, 98}, new int[] {-1, 1}, 9));
        Due.is("99 of 99, write, 98 of 98, write 99, and 97 fails", z.play(0), 5);
        Due.is("reason", z.total(8), 2);
    }

    private static void theTestThatFailsCounts() {
        TryLoops x = single(5, 5, 0, 9);
        Due.steps(x, 1, 6);
        int before = x.total(5);
        Due.is("the first step of the first turn", x.play(0), 1);
        Due.is("steps done", x.total(5), before + 1);
        Due.is("tests failed", x.total(6), 1);
        TryLoops y = cleared(Due.looped(new int[] {2, 5}, new int[] {1, 2}, new int[] {0, 0}, 3));
        Due.is("the last step of the last turn", y.play(0), 6);
        Due.is("reason", y.total(8), 2);
        Due.is("tests failed", y.total(6), 1);
    }

    private static void itsOwnTurns() {
        TryLoops x = single(2, 1, 0, 1);
        Due.is("1 turn", x.play(0), 1);
        x.setTurns(0, 99);
        Due.is("99 turns", x.play(0), 99);
        Due.is("cell(0)", x.cell(0), 0);
        Due.is("its turns stay", x.length(0, 2), 99);
        Due.is("states", x.total(10), 4);
        Due.is("undo() of the play as one change", x.undo(), 3);
        Due.is("cell(0)", x.cell(0), 1);
    }

    private static void theFewestAndTheMostSteps() {
        TryLoops x = single(5, 0, 0, 99);
        Due.steps(x, 1, 1);
        Due.is("the first step fails", x.play(0), 1);
        TryLoops y = new TryLoops();
        Due.aTry(y, Due.times(12, 2, 99));
        Due.aTry(y, Due.times(12, 2, 99));
        y.generalise(0, 1);
        y.setTurns(0, 99);
        Due.is("12 steps of 99 turns", y.play(0), 1188);
        Due.is("steps done", y.total(5), 24 + 1188);
    }

    private static void playUnknown() {
        TryLoops x = single(2, 1, 0, 2);
        for (int loop : EXTREMES) {
            Due.is("play(" + loop + ")", x.play(loop), -1);
        }
        Due.is("one behind the last", x.play(1), -1);
        Due.is("plays", x.total(7), 1);
        x.dropLoop(0);
        Due.is("one that was dropped", x.play(0), -1);
    }

    private static void playWhileOpen() {
        TryLoops x = single(2, 1, 0, 2);
        x.record();
        Due.is("an empty one is open", x.play(0), -4);
        Due.steps(x, 2, 7);
        Due.is("one of a step is open", x.play(0), -4);
        Due.is("cell(0)", x.cell(0), 7);
        Due.is("steps of the open one", x.total(3), 1);
        x.end();
        Due.is("none is open", x.play(0), 2);
        Due.is("cell(0)", x.cell(0), 9);
    }

    private static void ifPlayedTurns() {
        TryLoops x = single(2, 1, 0, 50);
        Due.is("1 turn", x.ifPlayed(0, 1, 0), 1);
        Due.is("2 turns", x.ifPlayed(0, 2, 0), 2);
        Due.is("fewer than its own", x.ifPlayed(0, 49, 0), 49);
        Due.is("more than its own", x.ifPlayed(0, 51, 0), 51);
        Due.is("99 turns", x.ifPlayed(0, 99, 0), 99);
        Due.is("0 turns", x.ifPlayed(0, 0, 0), -2);
        Due.is("100 turns", x.ifPlayed(0, 100, 0), -2);
        Due.is("its own stay", x.length(0, 2), 50);
    }

    private static void ifPlayedSteps() {
        TryLoops x = new TryLoops();
        Due.aTry(x, Due.times(12, 2, 99));
        Due.aTry(x, Due.times(12, 2, 99));
        x.generalise(0, 1);
        Due.is("12 steps of 99 turns", x.ifPlayed(0, 99, 0), 1188);
        TryLoops y = single(5, 0, 0, 9);
        Due.steps(y, 1, 1);
        Due.is("a test that fails counts", y.ifPlayed(0, 9, 0), 1);
        TryLoops z = single(0, 28, 1, 9);
        Due.is("a step beyond its range does not", z.ifPlayed(0, 9, 0), 2);
    }

    private static void ifPlayedReasons() {
        TryLoops x = single(1, 98, 1, 9);
        Due.is("just within", x.ifPlayed(0, 2, 1), 0);
        Due.is("just beyond", x.ifPlayed(0, 3, 1), 1);
        TryLoops y = cleared(Due.looped(new int[] {2, 5}, new int[] {1, 2}, new int[] {0, 0}, 9));
        Due.is("passed to the end", y.ifPlayed(0, 2, 1), 0);
        Due.is("the last step fails", y.ifPlayed(0, 3, 1), 2);
        Due.is("no play was done", y.total(7), 1);
    }

    private static void ifPlayedSum() {
        TryLoops x = cleared(Due.looped(new int[] {0, 1}, new int[] {0, 99}, new int[] {1, 0}, 9));
        Due.is("one cell", x.ifPlayed(0, 1, 2), 99);
        Due.is("all cells", x.ifPlayed(0, 30, 2), 30 * 99);
        Due.is("no more cells", x.ifPlayed(0, 31, 2), 30 * 99);
        TryLoops y = single(1, 0, 0, 9);
        Due.is("none", y.ifPlayed(0, 9, 2), 0);
    }

    private static void ifPlayedHand() {
        TryLoops x = single(0, 0, 1, 9);
        Due.is("the first cell", x.ifPlayed(0, 1, 3), 0);
        Due.is("the last cell", x.ifPlayed(0, 30, 3), 29);
        Due.is("not beyond it", x.ifPlayed(0, 31, 3), 29);
        Due.is("the hand stays", x.total(0), 0);
        TryLoops y = single(2, 1, 0, 9);
        Due.steps(y, 0, 29);
        Due.is("a play without a go", y.ifPlayed(0, 9, 3), 29);
    }

    private static void ifPlayedTests() {
        TryLoops x = single(5, 3, 0, 9);
        Due.is("each of 99", x.ifPlayed(0, 99, 4), 99);
        Due.steps(x, 1, 3);
        Due.is("a value that is just the number", x.ifPlayed(0, 1, 4), 1);
        Due.steps(x, 1, 4);
        Due.is("the one that fails does not count", x.ifPlayed(0, 99, 4), 0);
        TryLoops y = cleared(Due.looped(new int[] {5, 2, 5}, new int[] {9, 1, 2}, new int[] {0, 0, 0}, 9));
        Due.is("two in the turn 0", y.ifPlayed(0, 1, 4), 2);
        Due.is("one in the turn 2, where the other fails", y.ifPlayed(0, 9, 4), 5);
        TryLoops z = single(2, 1, 0, 9);
        Due.is("no test", z.ifPlayed(0, 99, 4), 0);
    }

    private static void ifPlayedUnknown() {
        TryLoops x = single(2, 1, 0, 2);
        for (int loop : EXTREMES) {
            for (int what = 0; what < 5; what++) {
                Due.is("ifPlayed(" + loop + ", 1, " + what + ")", x.ifPlayed(loop, 1, what), -1);
            }
        }
        Due.is("one behind the last", x.ifPlayed(1, 1, 0), -1);
    }

    private static void ifPlayedOutOfRange() {
        TryLoops x = single(2, 1, 0, 2);
        int[] turns = {Integer.MIN_VALUE, -1, 0, 100, 101, Integer.MAX_VALUE};
        for (int wrong : turns) {
            for (int what = 0; what < 5; what++) {
                Due.is("ifPlayed(0, " + wrong + ", " + what + ")", x.ifPlayed(0, wrong, what), -2);
            }
        }
        int[] whats = {Integer.MIN_VALUE, -1, 5, 6, Integer.MAX_VALUE};
        for (int what : whats) {
            Due.is("ifPlayed(0, 1, " + what + ")", x.ifPlayed(0, 1, what), -2);
            Due.is("ifPlayed(0, 99, " + what + ")", x.ifPlayed(0, 99, what), -2);
        }
    }

    private static void nothingChanges() {
        TryLoops x = cleared(Due.looped(new int[] {0, 2, 4, 5}, new int[] {1, 9, 0, 40}, new int[] {1, 1, 0, -2}, 9));
        Due.aTry(x, 1, 1, 1, 2);
        x.keep();
        x.record();
        Due.steps(x, 1, 3);
        String before = Picture.of(x);
        for (int what = 0; what < 5; what++) {
            Due.holds("no error is named for an open try", x.ifPlayed(0, 99, what) >= 0);
        }
        Due.is("nor here", x.fewestTurns(0, 29, 0), 1);
        x.fewestTurns(0, 0, 98);
        x.fewestTurns(0, 1, 0);
        x.mostTurns(0);
        x.fits(0, 0);
        x.alike(0, 0, 0);
        x.alike(0, 0, 1);
        x.bestPair(0);
        x.bestPair(1);
        Due.holds("all is as before", Picture.of(x).equals(before));
    }

    private static void whatIsLeftNotWhatComesAndGoes() {
        // write 5 and then 6 in each turn: the 5 is never left
        TryLoops x = cleared(Due.looped(new int[] {1, 1}, new int[] {5, 6}, new int[] {0, 0}, 9));
        Due.is("5", x.fewestTurns(0, 0, 5), -5);
        Due.is("6", x.fewestTurns(0, 0, 6), 1);
        // add 50: 50 and 0 by turns, the fewest are told
        TryLoops y = single(2, 50, 0, 9);
        Due.is("50", y.fewestTurns(0, 0, 50), 1);
        Due.is("0", y.fewestTurns(0, 0, 0), 2);
        // a value that is there before the play needs a turn that leaves it
        Due.is("one turn leaves what it does not touch", y.fewestTurns(0, 1, 0), 1);
        // what a turn leaves that a test cuts short: add 1, test 2, add 10
        TryLoops z = cleared(Due.looped(new int[] {2, 5, 2}, new int[] {1, 2, 10}, new int[] {0, 0, 0}, 9));
        Due.is("by a test", z.fewestTurns(0, 0, 12), 2);
        Due.is("as ifPlayed tells", z.ifPlayed(0, 2, 2), 12);
        // and one that a number cuts short: write 97 by 1, go 28 by 1
        TryLoops cut = cleared(Due.looped(new int[] {1, 0}, new int[] {97, 28}, new int[] {1, 1}, 9));
        Due.is("by a number", cut.fewestTurns(0, 29, 99), 3);
        Due.is("as ifPlayed tells", cut.ifPlayed(0, 3, 2), 97 + 98 + 99);
    }

    private static void fewestTurnsCells() {
        TryLoops x = cleared(Due.looped(new int[] {0, 1}, new int[] {0, 9}, new int[] {1, 0}, 2));
        for (int cell = 0; cell < 30; cell++) {
            Due.is("cell " + cell, x.fewestTurns(0, cell, 9), cell + 1);
        }
        Due.is("cell 30", x.fewestTurns(0, 30, 9), -1);
        Due.is("cell -1", x.fewestTurns(0, -1, 9), -1);
    }

    private static void fewestTurnsValues() {
        TryLoops x = single(1, 0, 1, 2);
        for (int value = 0; value < 99; value++) {
            Due.is("value " + value, x.fewestTurns(0, 0, value), value + 1);
        }
        Due.is("the value 99 would need 100 turns", x.fewestTurns(0, 0, 99), -5);
        int[] wrong = {Integer.MIN_VALUE, -1, 100, 101, Integer.MAX_VALUE};
        for (int value : wrong) {
            Due.is("value " + value, x.fewestTurns(0, 0, value), -2);
        }
    }

    private static void theFirstAndThe99thTurn() {
        TryLoops x = single(2, 1, 0, 1);
        Due.is("the first", x.fewestTurns(0, 0, 1), 1);
        Due.is("the 98th", x.fewestTurns(0, 0, 98), 98);
        Due.is("the 99th", x.fewestTurns(0, 0, 99), 99);
        Due.is("the 100th is one too many", x.fewestTurns(0, 0, 0), -5);
        Due.is("its own turns stay", x.length(0, 2), 1);
    }

    private static void fewestTurnsUnknown() {
        TryLoops x = single(2, 1, 0, 2);
        for (int loop : EXTREMES) {
            Due.is("fewestTurns(" + loop + ", 0, 1)", x.fewestTurns(loop, 0, 1), -1);
        }
        Due.is("one behind the last", x.fewestTurns(1, 0, 1), -1);
        int[] cells = {Integer.MIN_VALUE, -1, 30, 31, Integer.MAX_VALUE};
        for (int cell : cells) {
            Due.is("fewestTurns(0, " + cell + ", 0)", x.fewestTurns(0, cell, 0), -1);
        }
        Due.is("the last cell", x.fewestTurns(0, 29, 0), 1);
    }

    private static void noTurnsLeaveIt() {
        TryLoops x = single(2, 2, 0, 2);
        Due.is("an odd value", x.fewestTurns(0, 0, 51), -5);
        Due.is("another cell", x.fewestTurns(0, 1, 2), -5);
        // the play has ended before
        TryLoops y = single(1, 97, 1, 2);
        Due.is("the last", y.fewestTurns(0, 0, 99), 3);
        Due.is("beyond the end", y.fewestTurns(0, 0, 0), -5);
        TryLoops z = cleared(Due.looped(new int[] {2, 5}, new int[] {1, 2}, new int[] {0, 0}, 2));
        Due.is("up to the test that fails", z.fewestTurns(0, 0, 3), 3);
        Due.is("behind it", z.fewestTurns(0, 0, 4), -5);
    }
}
