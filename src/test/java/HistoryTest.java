/** Promises 14 (undo), 15 (keep) and 16 (restore). */
public final class HistoryTest {
    public static void main(String[] args) {
        fourStates();
        whatIsNoChange();
        errorsAndNoneRecordNothing();
        everyChangeRecords();
        everythingIsUndone();
        everythingIsRestored();
        keepAndRestore();
        theSnapshotStays();
        undoAfterRestore();
        manyRounds();
        Due.end();
    }

    private static void fourStates() {
        TryLoops x = new TryLoops();
        Due.is("undo()", x.undo(), -5);
        for (int i = 1; i <= 6; i++) {
            Due.steps(x, 1, i);
            Due.is("states", x.total(10), Math.min(i, 4));
        }
        for (int i = 3; i >= 0; i--) {
            Due.is("undo()", x.undo(), i);
            Due.is("cell(0)", x.cell(0), i + 2);
            Due.is("steps done", x.total(5), i + 2);
        }
        Due.is("undo()", x.undo(), -5);
        Due.is("cell(0)", x.cell(0), 2);
        Due.steps(x, 1, 50);
        Due.is("undo()", x.undo(), 0);
        Due.is("cell(0)", x.cell(0), 2);
    }

    private static void whatIsNoChange() {
        TryLoops x = new TryLoops();
        Due.steps(x, 1, 1);
        Due.text(x, "g1");
        x.clearText();
        x.keep();
        x.total(1);
        x.alike(0, 0, 0);
        x.bestPair(0);
        Due.is("states", x.total(10), 1);
        Due.text(x, "a5");
        Due.is("undo()", x.undo(), 0);
        Due.is("the text is not undone", x.total(11), 2);
        Due.is("and can be performed", x.perform(), 1);
        Due.is("cell(0)", x.cell(0), 5);
    }

    private static void errorsAndNoneRecordNothing() {
        TryLoops x = new TryLoops();
        x.step(9, 9);
        x.step(0, 99);
        x.end();
        x.dropTry(0);
        x.generalise(0, 1);
        x.fold(0);
        x.setTurns(0, 1);
        x.dropLoop(0);
        x.play(0);
        x.perform();
        x.undo();
        x.restore();
        Due.is("states", x.total(10), 0);
        Due.aTry(x, 1, 1, 1, 2);
        x.fold(0);
        emptyTheHistory(x);
        Due.is("as many turns already", x.setTurns(0, 2), -5);
        Due.is("turns out of range", x.setTurns(0, 100), -2);
        Due.is("the same try", x.generalise(0, 0), -4);
        Due.is("states", x.total(10), 0);
        Due.is("undo()", x.undo(), -5);
    }

    private static void everyChangeRecords() {
        TryLoops x = new TryLoops();
        Due.is("record", x.record(), 0);
        oneIsRecorded(x);
        Due.is("step", x.step(1, 1), 1);
        oneIsRecorded(x);
        Due.is("step", x.step(1, 2), 2);
        oneIsRecorded(x);
        Due.is("a test that fails", x.step(5, 1), 100);
        oneIsRecorded(x);
        Due.is("end", x.end(), 0);
        oneIsRecorded(x);
        x.record();
        emptyTheHistory(x);
        Due.is("end of an empty try", x.end(), 100);
        oneIsRecorded(x);
        Due.aTry(x, 1, 1, 1, 2, 5, 9);
        Due.aTry(x, 2, 1, 2, 1);
        emptyTheHistory(x);
        Due.is("generalise", x.generalise(0, 1), 0);
        oneIsRecorded(x);
        Due.is("fold", x.fold(2), 1);
        oneIsRecorded(x);
        Due.is("setTurns", x.setTurns(1, 3), 2);
        oneIsRecorded(x);
        Due.is("play", x.play(1), 3);
        oneIsRecorded(x);
        Due.is("dropLoop", x.dropLoop(0), 1);
        oneIsRecorded(x);
        Due.is("dropTry", x.dropTry(0), 2);
        oneIsRecorded(x);
        Due.is("perform", Due.perform(x, "w7;w8;2(w9)"), 4);
        oneIsRecorded(x);
        Due.is("keep", x.keep(), 2);
        Due.is("states", x.total(10), 0);
        Due.is("restore", x.restore(), 2);
        oneIsRecorded(x);
    }

    /** Four steps push all earlier states out, and are undone; the object is as it was. */
    private static void emptyTheHistory(TryLoops x) {
        for (int i = 0; i < 4; i++) {
            Due.holds("step is done", x.step(2, 1) >= 0);
        }
        for (int i = 3; i >= 0; i--) {
            Due.is("undo()", x.undo(), i);
        }
    }

    private static void oneIsRecorded(TryLoops x) {
        Due.is("states", x.total(10), 1);
        emptyTheHistory(x);
    }

    /** Two tries, a loop of them that was played, and an open try. */
    private static TryLoops rich() {
        TryLoops x = new TryLoops();
        Due.aTry(x, 0, 3, 1, 20, 5, 10);
        Due.aTry(x, 0, 4, 1, 30, 5, 20);
        x.generalise(0, 1);
        x.setTurns(0, 5);
        x.play(0);
        x.record();
        Due.steps(x, 2, 7);
        return x;
    }

    private static void everythingIsUndone() {
        TryLoops x = rich();
        int[] before = picture(x);
        x.step(0, 9);
        same(x, before, false);
        x.undo();
        same(x, before, true);
        x.end();
        same(x, before, false);
        x.undo();
        same(x, before, true);
        x.dropTry(0);
        x.undo();
        same(x, before, true);
    }

    private static void everythingIsRestored() {
        TryLoops x = rich();
        int[] before = picture(x);
        x.keep();
        x.dropLoop(0);
        x.undo();
        same(x, before, true);
        x.end();
        Due.perform(x, "g5;w1;9(a1,g6+1)");
        x.undo();
        x.undo();
        same(x, before, true);
        x.end();
        x.dropTry(0);
        x.dropTry(0);
        x.dropLoop(0);
        Due.perform(x, "g5;w1;9(a1,g6+1)");
        same(x, before, false);
        x.restore();
        same(x, before, true);
    }

    private static int[] picture(TryLoops x) {
        int[] picture = new int[30 + 10 + 3 * 3 * 2 + 3 * 4 + 2];
        int at = 0;
        for (int cell = 0; cell < 30; cell++) {
            picture[at++] = x.cell(cell);
        }
        for (int what = 0; what < 10; what++) {
            picture[at++] = x.total(what);
        }
        for (int number = 0; number < 3; number++) {
            for (int step = 0; step < 3; step++) {
                picture[at++] = x.ofTry(number, step, 0);
                picture[at++] = x.ofTry(number, step, 1);
            }
        }
        for (int step = 0; step < 3; step++) {
            for (int what = 0; what < 4; what++) {
                picture[at++] = x.ofLoop(0, step, what);
            }
        }
        picture[at++] = x.length(0, 1);
        picture[at] = x.length(0, 2);
        return picture;
    }

    private static void same(TryLoops x, int[] before, boolean due) {
        Due.is("all is as before", java.util.Arrays.equals(picture(x), before) ? 1 : 0, due ? 1 : 0);
    }

    private static void keepAndRestore() {
        TryLoops x = new TryLoops();
        Due.is("restore() without a snapshot", x.restore(), -5);
        Due.is("keep()", x.keep(), 0);
        Due.aTry(x, 1, 5);
        Due.is("restore()", x.restore(), 0);
        Due.is("cell(0)", x.cell(0), 0);
        Due.is("nothing is open", x.total(3), -5);
        Due.is("undo()", x.undo(), 3);
        Due.is("cell(0)", x.cell(0), 5);
        Due.is("tries", x.total(2), 1);
        Due.is("keep() in place of the earlier one", x.keep(), 1);
        Due.is("dropTry(0)", x.dropTry(0), 0);
        Due.steps(x, 1, 9);
        Due.is("restore()", x.restore(), 1);
        Due.is("cell(0)", x.cell(0), 5);
        x.record();
        Due.steps(x, 1, 6);
        Due.is("keep() of an open try", x.keep(), 1);
        Due.is("end()", x.end(), 1);
        Due.is("restore()", x.restore(), 1);
        Due.is("open steps", x.total(3), 1);
        Due.is("ofTry(1, 0, 1)", x.ofTry(1, 0, 1), 6);
    }

    private static void theSnapshotStays() {
        TryLoops x = new TryLoops();
        Due.steps(x, 1, 5);
        x.keep();
        Due.text(x, "w8");
        Due.is("undo() does not touch it", x.undo(), 0);
        Due.is("restore()", x.restore(), 0);
        Due.is("cell(0)", x.cell(0), 5);
        Due.steps(x, 1, 6);
        Due.is("restore()", x.restore(), 0);
        Due.is("cell(0)", x.cell(0), 5);
        Due.is("the text is not restored", x.total(11), 2);
        Due.is("states", x.total(10), 3);
    }

    private static void undoAfterRestore() {
        TryLoops x = new TryLoops();
        x.keep();
        Due.steps(x, 1, 1, 1, 2);
        x.restore();
        Due.is("states", x.total(10), 3);
        Due.is("undo()", x.undo(), 2);
        Due.is("cell(0)", x.cell(0), 2);
        Due.is("undo()", x.undo(), 1);
        Due.is("cell(0)", x.cell(0), 1);
    }

    private static void manyRounds() {
        TryLoops x = new TryLoops();
        int calls = 0;
        for (int round = 0; calls < 480; round++) {
            int base = round % 90;
            for (int i = 1; i <= 6; i++) {
                Due.is("write", x.step(1, base + i), base + i);
            }
            for (int i = 3; i >= 0; i--) {
                Due.is("undo()", x.undo(), i);
                Due.is("cell(0)", x.cell(0), base + i + 2);
            }
            calls += 14;
        }
    }
}
