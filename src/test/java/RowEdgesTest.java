/** The boundary cases of the row and the steps: the terms, and promises 1, 2 and 17. */
public final class RowEdgesTest {
    private static final int GO = 0;
    private static final int WRITE = 1;
    private static final int ADD = 2;
    private static final int COPY = 3;
    private static final int SWAP = 4;
    private static final int TEST = 5;

    public static void main(String[] args) {
        whatItIs();
        terms();
        promises();
        Due.end();
    }

    private static void whatItIs() {
        Edge.of("What it is", "An object is used for at most 512 calls after it has been made", RowEdgesTest::the512thCall);
        Edge.of("What it is", "what later calls answer is free.", RowEdgesTest::laterCallsEnd);
    }

    private static void terms() {
        Edge.of("Terms", "There are 30 cells, numbered from 0", RowEdgesTest::thirtyCells);
        Edge.of("Terms", "each with a value from 0 to 99", RowEdgesTest::valuesFrom0To99);
        Edge.of("Terms", "(0 at first), and a hand", RowEdgesTest::cellsAreZeroAtFirst);
        Edge.of("Terms", "a hand at a cell (0 at first)", RowEdgesTest::theHandIsAtZeroAtFirst);
        Edge.of("Terms", "0 go (0 to 29)", () -> range(GO, 29));
        Edge.of("Terms", "the hand is at this cell then", RowEdgesTest::goToTheEnds);
        Edge.of("Terms", "1 write (0 to 99)", () -> range(WRITE, 99));
        Edge.of("Terms", "the cell of the hand gets this value", RowEdgesTest::writeAtTheEnds);
        Edge.of("Terms", "2 add (0 to 99)", () -> range(ADD, 99));
        Edge.of("Terms", "the sum of it and the number, modulo 100", RowEdgesTest::addWrapsAround);
        Edge.of("Terms", "3 copy (0 to 29)", () -> range(COPY, 29));
        Edge.of("Terms", "the cell of the hand gets the value of this cell", RowEdgesTest::copyAtTheEnds);
        Edge.of("Terms", "4 swap (0 to 29)", () -> range(SWAP, 29));
        Edge.of("Terms", "the cell of the hand and this cell exchange their values", RowEdgesTest::swapAtTheEnds);
        Edge.of("Terms", "5 test (0 to 99)", () -> range(TEST, 99));
        Edge.of("Terms", "it is passed if the value of the cell of the hand is at most the number", RowEdgesTest::testOfTheEqual);
        Edge.of("Terms", "otherwise it fails", RowEdgesTest::testOfOneLess);
        Edge.of("Terms", "nothing else happens.", RowEdgesTest::aTestLeavesTheRow);
    }

    private static void promises() {
        Edge.of("Promise 1:", "Creates a row of zeros", RowEdgesTest::cellsAreZeroAtFirst);
        Edge.of("Promise 1:", "without tries and loops", RowEdgesTest::noTriesAndLoopsAtFirst);
        Edge.of("Promise 1:", "nothing is recorded", RowEdgesTest::nothingIsRecordedAtFirst);
        Edge.of("Promise 2:", "`verb`: 0 to 5", RowEdgesTest::verbs);
        Edge.of("Promise 2:", "`number`: in the range of the verb", RowEdgesTest::numbersOutOfRangeDoNothing);
        Edge.of("Promise 2:", "records it, if a try is open", RowEdgesTest::recordedOnlyIfOpen);
        Edge.of("Promise 2:", "Returns the value of the cell of the hand then", RowEdgesTest::theValueThen);
        Edge.of("Promise 2:", "but 100 if the step is a test that fails", RowEdgesTest::onlyAFailingTestIs100);
        Edge.of("Promise 2:", "UNKNOWN", RowEdgesTest::verbs);
        Edge.of("Promise 2:", "OUT_OF_RANGE", RowEdgesTest::numbersOutOfRangeDoNothing);
        Edge.of("Promise 2:", "FULL if a try is open that has 12 steps", RowEdgesTest::fullOnlyWhileOpen);
        Edge.of("Promise 17:", "`cell`: 0 to 29", RowEdgesTest::thirtyCells);
        Edge.of("Promise 17:", "UNKNOWN", RowEdgesTest::unknownCells);
    }

    private static void the512thCall() {
        TryLoops x = new TryLoops();
        for (int call = 1; call <= 511; call++) {
            Due.is("call " + call, x.step(ADD, 1), call % 100);
        }
        Due.is("the 512th call, steps done", x.total(5), 511);
        TryLoops y = new TryLoops();
        for (int call = 1; call <= 508; call++) {
            Due.is("call " + call, y.step(WRITE, call % 100), call % 100);
        }
        for (int left = 3; left >= 0; left--) {
            Due.is("undo() as one of the last calls", y.undo(), left);
        }
        TryLoops z = new TryLoops();
        for (int call = 1; call <= 509; call++) {
            Due.is("call " + call, z.step(GO, call % 30), 0);
        }
        Due.is("the 510th call", z.record(), 0);
        Due.is("the 511th call", z.step(WRITE, 99), 99);
        Due.is("the 512th call", z.end(), 0);
    }

    /** Free answers, but LANGUAGE.md, rule 7: no call may ever throw or fail to end. */
    private static void laterCallsEnd() {
        TryLoops x = new TryLoops();
        Due.text(x, "99(a1,t99)");
        for (int call = 0; call < 5000; call++) {
            x.perform();
            x.step(ADD, 99);
            x.undo();
        }
        Due.holds("each call came to its end", true);
    }

    private static void thirtyCells() {
        TryLoops x = new TryLoops();
        for (int cell = 0; cell < 30; cell++) {
            Due.is("go " + cell, x.step(GO, cell), 0);
            Due.is("write", x.step(WRITE, cell + 1), cell + 1);
        }
        for (int cell = 0; cell < 30; cell++) {
            Due.is("cell(" + cell + ")", x.cell(cell), cell + 1);
        }
        Due.is("cell(30)", x.cell(30), -1);
        Due.is("cell(-1)", x.cell(-1), -1);
    }

    private static void unknownCells() {
        TryLoops x = new TryLoops();
        int[] wrong = {-1, 30, 31, 99, 256, -30, Integer.MIN_VALUE, Integer.MAX_VALUE};
        for (int cell : wrong) {
            Due.is("cell(" + cell + ")", x.cell(cell), -1);
        }
    }

    private static void valuesFrom0To99() {
        TryLoops x = new TryLoops();
        Due.is("write 99", x.step(WRITE, 99), 99);
        Due.is("cell(0)", x.cell(0), 99);
        Due.is("add 99", x.step(ADD, 99), 98);
        Due.is("add 2", x.step(ADD, 2), 0);
        Due.is("cell(0)", x.cell(0), 0);
        Due.is("write 0", x.step(WRITE, 0), 0);
        Due.is("cell(0)", x.cell(0), 0);
    }

    private static void cellsAreZeroAtFirst() {
        TryLoops x = new TryLoops();
        for (int cell = 0; cell < 30; cell++) {
            Due.is("cell(" + cell + ")", x.cell(cell), 0);
        }
        Due.is("sum", x.total(1), 0);
    }

    private static void theHandIsAtZeroAtFirst() {
        TryLoops x = new TryLoops();
        Due.is("hand", x.total(0), 0);
        Due.is("write 7", x.step(WRITE, 7), 7);
        Due.is("cell(0)", x.cell(0), 7);
    }

    private static void noTriesAndLoopsAtFirst() {
        TryLoops x = new TryLoops();
        Due.is("tries", x.total(2), 0);
        Due.is("length of try 0", x.length(0, 0), -1);
        Due.is("step of try 0", x.ofTry(0, 0, 0), -1);
        Due.is("loops", x.total(4), 0);
        Due.is("body of loop 0", x.length(0, 1), -1);
        Due.is("turns of loop 0", x.length(0, 2), -1);
        Due.is("step of loop 0", x.ofLoop(0, 0, 0), -1);
        Due.is("dropTry(0)", x.dropTry(0), -1);
        Due.is("dropLoop(0)", x.dropLoop(0), -1);
        Due.is("play(0)", x.play(0), -1);
    }

    private static void nothingIsRecordedAtFirst() {
        TryLoops x = new TryLoops();
        Due.is("steps of the open one", x.total(3), -5);
        Due.is("end()", x.end(), -4);
        Due.is("states", x.total(10), 0);
        Due.is("undo()", x.undo(), -5);
        Due.is("restore()", x.restore(), -5);
        Due.is("length of the text", x.total(11), 0);
        x.step(WRITE, 1);
        Due.is("record() begins with nothing", x.record(), 0);
        Due.is("steps of the open one", x.total(3), 0);
    }

    /** Both ends of the range are taken, what lies beyond them is not, and does nothing. */
    private static void range(int verb, int most) {
        int[] outOfRange = {-1, most + 1, -most, 100, 1000, Integer.MIN_VALUE, Integer.MAX_VALUE};
        for (int number : outOfRange) {
            TryLoops x = new TryLoops();
            Due.is("step(" + verb + ", " + number + ")", x.step(verb, number), -2);
            Due.is("steps done", x.total(5), 0);
            Due.is("states", x.total(10), 0);
        }
        for (int number = 0; number <= most; number++) {
            TryLoops x = new TryLoops();
            int due = verb == WRITE || verb == ADD ? number : 0;
            Due.is("step(" + verb + ", " + number + ")", x.step(verb, number), due);
            Due.is("steps done", x.total(5), 1);
        }
    }

    private static void goToTheEnds() {
        TryLoops x = new TryLoops();
        Due.is("go 29", x.step(GO, 29), 0);
        Due.is("hand", x.total(0), 29);
        Due.is("go 29 again", x.step(GO, 29), 0);
        Due.is("hand", x.total(0), 29);
        Due.is("go 0", x.step(GO, 0), 0);
        Due.is("hand", x.total(0), 0);
        Due.is("go 30", x.step(GO, 30), -2);
        Due.is("hand", x.total(0), 0);
    }

    private static void writeAtTheEnds() {
        TryLoops x = new TryLoops();
        Due.steps(x, GO, 29);
        Due.is("write 99", x.step(WRITE, 99), 99);
        Due.is("cell(29)", x.cell(29), 99);
        Due.is("write 0", x.step(WRITE, 0), 0);
        Due.is("cell(29)", x.cell(29), 0);
        Due.is("sum", x.total(1), 0);
    }

    private static void addWrapsAround() {
        int[][] due = {{99, 0, 99}, {99, 1, 0}, {99, 2, 1}, {99, 99, 98}, {0, 99, 99}, {1, 99, 0}, {50, 49, 99},
            {50, 50, 0}, {50, 51, 1}, {0, 0, 0}};
        for (int[] sum : due) {
            TryLoops x = new TryLoops();
            Due.steps(x, GO, 29, WRITE, sum[0]);
            Due.is(sum[0] + " and " + sum[1], x.step(ADD, sum[1]), sum[2]);
            Due.is("cell(29)", x.cell(29), sum[2]);
            Due.is("sum of all", x.total(1), sum[2]);
        }
    }

    private static void copyAtTheEnds() {
        TryLoops x = new TryLoops();
        Due.steps(x, WRITE, 11, GO, 29, WRITE, 22);
        Due.is("copy of the hand's own cell", x.step(COPY, 29), 22);
        Due.is("copy of the first cell", x.step(COPY, 0), 11);
        Due.is("cell(29)", x.cell(29), 11);
        Due.is("cell(0)", x.cell(0), 11);
        Due.steps(x, WRITE, 33, GO, 0);
        Due.is("copy of the last cell", x.step(COPY, 29), 33);
        Due.is("cell(0)", x.cell(0), 33);
        Due.is("cell(29)", x.cell(29), 33);
        Due.is("hand", x.total(0), 0);
    }

    private static void swapAtTheEnds() {
        TryLoops x = new TryLoops();
        Due.steps(x, WRITE, 11, GO, 29, WRITE, 22);
        Due.is("swap with the hand's own cell", x.step(SWAP, 29), 22);
        Due.is("cell(29)", x.cell(29), 22);
        Due.is("swap with the first cell", x.step(SWAP, 0), 11);
        Due.is("cell(29)", x.cell(29), 11);
        Due.is("cell(0)", x.cell(0), 22);
        Due.steps(x, GO, 0);
        Due.is("swap with the last cell", x.step(SWAP, 29), 11);
        Due.is("cell(0)", x.cell(0), 11);
        Due.is("cell(29)", x.cell(29), 22);
        Due.is("hand", x.total(0), 0);
    }

    private static void testOfTheEqual() {
        int[] values = {0, 1, 50, 98, 99};
        for (int value : values) {
            TryLoops x = new TryLoops();
            Due.steps(x, WRITE, value);
            Due.is("the value itself, " + value, x.step(TEST, value), value);
            Due.is("the most", x.step(TEST, 99), value);
            Due.is("tests failed", x.total(6), 0);
        }
    }

    private static void testOfOneLess() {
        int[] values = {1, 2, 50, 98, 99};
        for (int value : values) {
            TryLoops x = new TryLoops();
            Due.steps(x, WRITE, value);
            Due.is("one less than " + value, x.step(TEST, value - 1), 100);
            Due.is("tests failed", x.total(6), 1);
            Due.is("the least", x.step(TEST, 0), 100);
            Due.is("tests failed", x.total(6), 2);
        }
    }

    private static void aTestLeavesTheRow() {
        TryLoops x = new TryLoops();
        Due.steps(x, WRITE, 5, GO, 29, WRITE, 60);
        Due.is("a test that fails", x.step(TEST, 5), 100);
        Due.is("a test that is passed", x.step(TEST, 60), 60);
        Due.is("cell(0)", x.cell(0), 5);
        Due.is("cell(5)", x.cell(5), 0);
        Due.is("cell(29)", x.cell(29), 60);
        Due.is("hand", x.total(0), 29);
        Due.is("sum", x.total(1), 65);
        Due.is("steps done", x.total(5), 5);
    }

    private static void verbs() {
        TryLoops x = new TryLoops();
        Due.is("step(-1, 0)", x.step(-1, 0), -1);
        Due.is("step(0, 0)", x.step(0, 0), 0);
        Due.is("step(5, 0)", x.step(5, 0), 0);
        Due.is("step(6, 0)", x.step(6, 0), -1);
        Due.is("step(min, 0)", x.step(Integer.MIN_VALUE, 0), -1);
        Due.is("step(max, 0)", x.step(Integer.MAX_VALUE, 0), -1);
        Due.is("steps done", x.total(5), 2);
    }

    private static void numbersOutOfRangeDoNothing() {
        int[] most = {29, 99, 99, 29, 29, 99};
        for (int verb = 0; verb < 6; verb++) {
            TryLoops x = new TryLoops();
            Due.steps(x, WRITE, 9, GO, 1, WRITE, 8);
            x.record();
            String before = Picture.of(x);
            Due.is("one too many for verb " + verb, x.step(verb, most[verb] + 1), -2);
            Due.is("one too few for verb " + verb, x.step(verb, -1), -2);
            Due.holds("nothing is changed by verb " + verb, Picture.of(x).equals(before));
        }
    }

    private static void recordedOnlyIfOpen() {
        TryLoops x = new TryLoops();
        Due.steps(x, WRITE, 1);
        x.record();
        Due.is("none ahead of it", x.total(3), 0);
        Due.steps(x, WRITE, 2);
        Due.is("one within", x.total(3), 1);
        x.end();
        Due.steps(x, WRITE, 3);
        Due.is("none behind it", x.length(0, 0), 1);
        Due.is("the one within", x.ofTry(0, 0, 1), 2);
        x.record();
        Due.is("nor in the next one", x.total(3), 0);
    }

    private static void theValueThen() {
        TryLoops x = new TryLoops();
        Due.steps(x, WRITE, 99, GO, 29, WRITE, 1);
        Due.is("go: of the new cell", x.step(GO, 0), 99);
        Due.is("go: of the new cell", x.step(GO, 29), 1);
        Due.is("write: the new value", x.step(WRITE, 2), 2);
        Due.is("add: the sum", x.step(ADD, 98), 0);
        Due.is("copy: the copied value", x.step(COPY, 0), 99);
        Due.steps(x, WRITE, 4);
        Due.is("swap: the value of the other cell", x.step(SWAP, 0), 99);
        Due.is("test: the value", x.step(TEST, 99), 99);
    }

    private static void onlyAFailingTestIs100() {
        TryLoops x = new TryLoops();
        Due.is("the greatest value", x.step(WRITE, 99), 99);
        Due.is("a passed test of it", x.step(TEST, 99), 99);
        Due.is("a failing test of it", x.step(TEST, 98), 100);
        Due.is("a sum of 100", x.step(ADD, 1), 0);
        x.record();
        Due.steps(x, WRITE, 1);
        Due.is("a failing test that is recorded", x.step(TEST, 0), 100);
    }

    private static void fullOnlyWhileOpen() {
        TryLoops x = new TryLoops();
        x.record();
        for (int i = 1; i <= 12; i++) {
            Due.is("step " + i, x.step(ADD, 1), i);
        }
        for (int verb = 0; verb < 6; verb++) {
            Due.is("a thirteenth of verb " + verb, x.step(verb, 0), -3);
        }
        Due.is("cell(0)", x.cell(0), 12);
        Due.is("undo() of the twelfth", x.undo(), 3);
        Due.is("there is room for one", x.step(ADD, 5), 16);
        Due.is("and full again", x.step(ADD, 5), -3);
        x.end();
        Due.is("without an open one", x.step(ADD, 5), 21);
        x.record();
        Due.is("an empty one again", x.step(ADD, 5), 26);
    }
}
