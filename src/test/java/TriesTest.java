/** Promises 3 (record), 4 (end), 5 (dropTry), 18 (ofTry) and 20 (length, what 0). */
public final class TriesTest {
    public static void main(String[] args) {
        recordAndEnd();
        anEmptyTryIsNotKept();
        sixTriesAreKept();
        triesAreDropped();
        aTryIsDroppedWhileOneIsOpen();
        ofTry();
        length();
        changesCanBeUndone();
        Due.end();
    }

    private static void recordAndEnd() {
        TryLoops x = new TryLoops();
        Due.is("end() first", x.end(), -4);
        Due.is("record()", x.record(), 0);
        Due.is("record() again", x.record(), -4);
        Due.is("tries kept", x.total(2), 0);
        Due.steps(x, 1, 5);
        Due.is("end()", x.end(), 0);
        Due.is("end() again", x.end(), -4);
        Due.is("tries kept", x.total(2), 1);
        Due.is("open one", x.total(3), -5);
        Due.is("record()", x.record(), 1);
        Due.is("states", x.total(10), 4);
    }

    private static void anEmptyTryIsNotKept() {
        TryLoops x = new TryLoops();
        Due.is("record()", x.record(), 0);
        Due.is("end()", x.end(), 100);
        Due.is("tries kept", x.total(2), 0);
        Due.is("states", x.total(10), 2);
        Due.is("record()", x.record(), 0);
        Due.is("open steps", x.total(3), 0);
        // the row has what was done before; only the try is new
        Due.steps(x, 1, 5);
        Due.is("end()", x.end(), 0);
        Due.is("record()", x.record(), 1);
        Due.is("open steps of the new one", x.total(3), 0);
        Due.is("end()", x.end(), 100);
        Due.is("tries kept", x.total(2), 1);
    }

    private static void sixTriesAreKept() {
        TryLoops x = new TryLoops();
        for (int i = 0; i < 6; i++) {
            Due.is("record()", x.record(), i);
            Due.steps(x, 1, 10 + i);
            Due.is("end()", x.end(), i);
        }
        Due.is("record()", x.record(), -3);
        Due.is("end()", x.end(), -4);
        Due.is("tries kept", x.total(2), 6);
        for (int i = 0; i < 6; i++) {
            Due.is("number", x.ofTry(i, 0, 1), 10 + i);
        }
        Due.is("ofTry(6, 0, 0)", x.ofTry(6, 0, 0), -1);
        Due.is("dropTry(3)", x.dropTry(3), 5);
        Due.is("record()", x.record(), 5);
        Due.is("record() while open", x.record(), -4);
    }

    private static void triesAreDropped() {
        TryLoops x = new TryLoops();
        Due.is("dropTry(0)", x.dropTry(0), -1);
        Due.aTry(x, 1, 10, 1, 20);
        Due.aTry(x, 2, 11);
        Due.aTry(x, 0, 12, 0, 13, 0, 14);
        int[] wrong = {-1, 3, 6, Integer.MIN_VALUE, Integer.MAX_VALUE};
        for (int number : wrong) {
            Due.is("dropTry(" + number + ")", x.dropTry(number), -1);
        }
        Due.is("dropTry(1)", x.dropTry(1), 2);
        Due.is("length(0, 0)", x.length(0, 0), 2);
        Due.is("length(1, 0)", x.length(1, 0), 3);
        Due.is("length(2, 0)", x.length(2, 0), -1);
        Due.is("ofTry(1, 2, 1)", x.ofTry(1, 2, 1), 14);
        Due.is("ofTry(1, 2, 0)", x.ofTry(1, 2, 0), 0);
        Due.is("dropTry(1)", x.dropTry(1), 1);
        Due.is("dropTry(0)", x.dropTry(0), 0);
        Due.is("dropTry(0)", x.dropTry(0), -1);
    }

    private static void aTryIsDroppedWhileOneIsOpen() {
        TryLoops x = new TryLoops();
        for (int i = 0; i < 5; i++) {
            Due.aTry(x, 1, i);
        }
        x.record();
        Due.steps(x, 0, 7, 1, 77);
        Due.is("the open one cannot be dropped", x.dropTry(5), -1);
        Due.is("dropTry(0)", x.dropTry(0), 4);
        Due.is("open steps", x.total(3), 2);
        Due.is("ofTry(4, 1, 1)", x.ofTry(4, 1, 1), 77);
        Due.is("ofTry(5, 1, 1)", x.ofTry(5, 1, 1), -1);
        Due.steps(x, 2, 1);
        Due.is("dropTry(3)", x.dropTry(3), 3);
        Due.is("end()", x.end(), 3);
        Due.is("length(3, 0)", x.length(3, 0), 3);
        Due.is("ofTry(3, 0, 1)", x.ofTry(3, 0, 1), 7);
        Due.is("ofTry(3, 2, 0)", x.ofTry(3, 2, 0), 2);
        Due.is("ofTry(2, 0, 1)", x.ofTry(2, 0, 1), 3);
        Due.is("undo() to the open one", x.undo(), 3);
        Due.is("open steps", x.total(3), 3);
        Due.is("undo() of the drop", x.undo(), 2);
        Due.is("tries kept", x.total(2), 4);
        Due.is("ofTry(3, 0, 1)", x.ofTry(3, 0, 1), 4);
        Due.is("open one", x.ofTry(4, 2, 0), 2);
    }

    private static void ofTry() {
        TryLoops x = new TryLoops();
        Due.aTry(x, 3, 10, 5, 99);
        Due.is("verb", x.ofTry(0, 0, 0), 3);
        Due.is("number", x.ofTry(0, 0, 1), 10);
        Due.is("last verb", x.ofTry(0, 1, 0), 5);
        Due.is("last number", x.ofTry(0, 1, 1), 99);
        Due.is("step behind", x.ofTry(0, 2, 0), -1);
        Due.is("step -1", x.ofTry(0, -1, 0), -1);
        Due.is("step max", x.ofTry(0, Integer.MAX_VALUE, 0), -1);
        Due.is("step min", x.ofTry(0, Integer.MIN_VALUE, 0), -1);
        Due.is("no open one", x.ofTry(1, 0, 0), -1);
        Due.is("try -1", x.ofTry(-1, 0, 0), -1);
        Due.is("try max", x.ofTry(Integer.MAX_VALUE, 0, 0), -1);
        Due.is("what 2", x.ofTry(0, 0, 2), -2);
        Due.is("what -1", x.ofTry(0, 0, -1), -2);
        Due.is("unknown try first", x.ofTry(1, 0, 2), -1);
        Due.is("unknown step first", x.ofTry(0, 2, 2), -1);
        x.record();
        Due.is("open one is empty", x.ofTry(1, 0, 0), -1);
        Due.steps(x, 4, 6);
        Due.is("open one's verb", x.ofTry(1, 0, 0), 4);
        Due.is("open one's number", x.ofTry(1, 0, 1), 6);
        Due.is("open one, what", x.ofTry(1, 0, 2), -2);
        Due.is("behind the open one", x.ofTry(2, 0, 0), -1);
    }

    private static void length() {
        TryLoops x = new TryLoops();
        Due.aTry(x, 1, 1);
        Due.aTry(x, 1, 1, 1, 2, 1, 3, 1, 4, 1, 5, 1, 6, 1, 7, 1, 8, 1, 9, 1, 10, 1, 11, 1, 12);
        Due.is("length(0, 0)", x.length(0, 0), 1);
        Due.is("length(1, 0)", x.length(1, 0), 12);
        Due.is("length(2, 0)", x.length(2, 0), -1);
        Due.is("length(-1, 0)", x.length(-1, 0), -1);
        x.record();
        Due.steps(x, 1, 1);
        Due.is("the open one is no try yet", x.length(2, 0), -1);
        Due.is("what is asked first", x.length(9, 3), -2);
        Due.is("what -1", x.length(0, -1), -2);
        Due.is("no loop", x.length(0, 1), -1);
        Due.is("no loop", x.length(0, 2), -1);
    }

    private static void changesCanBeUndone() {
        TryLoops x = new TryLoops();
        x.record();
        Due.is("undo of record", x.undo(), 0);
        Due.is("nothing is open", x.total(3), -5);
        Due.is("end()", x.end(), -4);
        Due.aTry(x, 1, 42);
        Due.is("undo of end", x.undo(), 2);
        Due.is("open steps", x.total(3), 1);
        Due.is("tries kept", x.total(2), 0);
        Due.is("end()", x.end(), 0);
        Due.is("dropTry(0)", x.dropTry(0), 0);
        Due.is("undo of the drop", x.undo(), 3);
        Due.is("ofTry(0, 0, 1)", x.ofTry(0, 0, 1), 42);
    }
}
