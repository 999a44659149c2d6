/** Promises 1 (a new object), 2 (step) and 17 (cell). */
public final class StepsTest {
    public static void main(String[] args) {
        aNewObject();
        objectsAreApart();
        goAndWrite();
        add();
        copy();
        swap();
        test();
        wrongArguments();
        stepsAreRecorded();
        aFullTryTakesNoStep();
        errorsChangeNothing();
        cell();
        Due.end();
    }

    private static void aNewObject() {
        TryLoops x = new TryLoops();
        for (int cell = 0; cell < 30; cell++) {
            Due.is("cell(" + cell + ")", x.cell(cell), 0);
        }
        int[] due = {0, 0, 0, -5, 0, 0, 0, 0, -5, 0, 0, 0};
        for (int what = 0; what < due.length; what++) {
            Due.is("total(" + what + ")", x.total(what), due[what]);
        }
        Due.is("undo()", x.undo(), -5);
        Due.is("restore()", x.restore(), -5);
        Due.is("length(0, 0)", x.length(0, 0), -1);
        Due.is("length(0, 1)", x.length(0, 1), -1);
        Due.is("ofTry(0, 0, 0)", x.ofTry(0, 0, 0), -1);
    }

    private static void objectsAreApart() {
        TryLoops x = new TryLoops();
        TryLoops y = new TryLoops();
        Due.steps(x, 0, 3, 1, 50);
        Due.text(x, "g1");
        x.keep();
        Due.is("cell of the other", y.cell(3), 0);
        Due.is("hand of the other", y.total(0), 0);
        Due.is("text of the other", y.total(11), 0);
        Due.is("snapshot of the other", y.restore(), -5);
    }

    private static void goAndWrite() {
        TryLoops x = new TryLoops();
        Due.is("go 29", x.step(0, 29), 0);
        Due.is("hand", x.total(0), 29);
        Due.is("write 99", x.step(1, 99), 99);
        Due.is("go 0", x.step(0, 0), 0);
        Due.is("write 1", x.step(1, 1), 1);
        Due.is("write 0", x.step(1, 0), 0);
        Due.is("go back", x.step(0, 29), 99);
        Due.is("cell(29)", x.cell(29), 99);
        Due.is("steps done", x.total(5), 6);
        Due.is("states", x.total(10), 4);
    }

    private static void add() {
        TryLoops x = new TryLoops();
        Due.is("add 60", x.step(2, 60), 60);
        Due.is("add 39", x.step(2, 39), 99);
        Due.is("add 0", x.step(2, 0), 99);
        Due.is("add 1", x.step(2, 1), 0);
        Due.is("add 99", x.step(2, 99), 99);
        Due.is("add 99 again", x.step(2, 99), 98);
        Due.is("cell(0)", x.cell(0), 98);
    }

    private static void copy() {
        TryLoops x = new TryLoops();
        Due.steps(x, 0, 4, 1, 44, 0, 29);
        Due.is("copy 4", x.step(3, 4), 44);
        Due.is("cell(29)", x.cell(29), 44);
        Due.is("cell(4)", x.cell(4), 44);
        Due.is("copy of itself", x.step(3, 29), 44);
        Due.is("copy 0", x.step(3, 0), 0);
        Due.is("hand stays", x.total(0), 29);
    }

    private static void swap() {
        TryLoops x = new TryLoops();
        Due.steps(x, 1, 7, 0, 29, 1, 9);
        Due.is("swap 0", x.step(4, 0), 7);
        Due.is("cell(0)", x.cell(0), 9);
        Due.is("cell(29)", x.cell(29), 7);
        Due.is("swap with itself", x.step(4, 29), 7);
        Due.is("cell(29)", x.cell(29), 7);
        Due.is("sum", x.total(1), 16);
    }

    private static void test() {
        TryLoops x = new TryLoops();
        Due.is("test 0 of 0", x.step(5, 0), 0);
        Due.is("write 50", x.step(1, 50), 50);
        Due.is("test 50", x.step(5, 50), 50);
        Due.is("test 51", x.step(5, 51), 50);
        Due.is("tests failed", x.total(6), 0);
        Due.is("test 49", x.step(5, 49), 100);
        Due.is("test 0", x.step(5, 0), 100);
        Due.is("test 99", x.step(5, 99), 50);
        Due.is("tests failed", x.total(6), 2);
        Due.is("steps done", x.total(5), 7);
        Due.is("cell(0)", x.cell(0), 50);
        Due.is("states", x.total(10), 4);
        Due.is("undo of the passed test", x.undo(), 3);
        Due.is("undo of a failed test", x.undo(), 2);
        Due.is("tests failed", x.total(6), 1);
    }

    private static void wrongArguments() {
        TryLoops x = new TryLoops();
        int[] verbs = {-1, 6, 100, Integer.MIN_VALUE, Integer.MAX_VALUE};
        for (int verb : verbs) {
            Due.is("step(" + verb + ", 0)", x.step(verb, 0), -1);
            Due.is("step(" + verb + ", -1)", x.step(verb, -1), -1);
        }
        int[] most = {29, 99, 99, 29, 29, 99};
        for (int verb = 0; verb < 6; verb++) {
            Due.is("step(" + verb + ", -1)", x.step(verb, -1), -2);
            Due.is("step(" + verb + ", too much)", x.step(verb, most[verb] + 1), -2);
            Due.is("step(" + verb + ", least)", x.step(verb, Integer.MIN_VALUE), -2);
            Due.is("step(" + verb + ", greatest)", x.step(verb, Integer.MAX_VALUE), -2);
            Due.holds("step(" + verb + ", most)", x.step(verb, most[verb]) >= 0);
        }
        Due.is("steps done", x.total(5), 6);
    }

    private static void stepsAreRecorded() {
        TryLoops x = new TryLoops();
        Due.steps(x, 1, 3);
        Due.is("record()", x.record(), 0);
        Due.is("empty", x.total(3), 0);
        Due.steps(x, 2, 4, 5, 0, 4, 8);
        Due.is("wrong step", x.step(0, 30), -2);
        Due.is("open steps", x.total(3), 3);
        int[] due = {2, 4, 5, 0, 4, 8};
        for (int i = 0; i < 3; i++) {
            Due.is("verb " + i, x.ofTry(0, i, 0), due[2 * i]);
            Due.is("number " + i, x.ofTry(0, i, 1), due[2 * i + 1]);
        }
        Due.is("end()", x.end(), 0);
        Due.steps(x, 1, 3);
        Due.is("length(0, 0)", x.length(0, 0), 3);
    }

    private static void aFullTryTakesNoStep() {
        TryLoops x = new TryLoops();
        x.record();
        for (int i = 0; i < 11; i++) {
            Due.is("add 1", x.step(2, 1), i + 1);
        }
        Due.is("the twelfth", x.step(2, 1), 12);
        Due.is("the thirteenth", x.step(2, 1), -3);
        Due.is("unknown first", x.step(6, 1), -1);
        Due.is("range first", x.step(2, 100), -2);
        Due.is("cell(0)", x.cell(0), 12);
        Due.is("steps done", x.total(5), 12);
        Due.is("open steps", x.total(3), 12);
        Due.is("end()", x.end(), 0);
        Due.is("now again", x.step(2, 1), 13);
        Due.is("length(0, 0)", x.length(0, 0), 12);
    }

    private static void errorsChangeNothing() {
        TryLoops x = new TryLoops();
        Due.steps(x, 1, 8);
        x.step(6, 0);
        x.step(1, 100);
        Due.is("states", x.total(10), 1);
        Due.is("undo()", x.undo(), 0);
        Due.is("cell(0)", x.cell(0), 0);
    }

    private static void cell() {
        TryLoops x = new TryLoops();
        Due.steps(x, 1, 11, 0, 29, 1, 22);
        Due.is("cell(0)", x.cell(0), 11);
        Due.is("cell(29)", x.cell(29), 22);
        Due.is("cell(28)", x.cell(28), 0);
        int[] wrong = {-1, 30, Integer.MIN_VALUE, Integer.MAX_VALUE};
        for (int cell : wrong) {
            Due.is("cell(" + cell + ")", x.cell(cell), -1);
        }
        Due.is("states", x.total(10), 3);
    }
}
