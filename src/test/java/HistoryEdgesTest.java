import java.util.List;
import java.util.function.Consumer;
import java.util.function.ToIntFunction;

/** The boundary cases of the history and the snapshot: the terms, and promises 14, 15 and 16. */
public final class HistoryEdgesTest {
    public static void main(String[] args) {
        terms();
        promises();
        Due.end();
    }

    private static void terms() {
        Edge.of("Terms", "A history of at most 4 states is kept.", HistoryEdgesTest::fourStates);
        Edge.of("Terms", "Each call of a method that is described as a change", HistoryEdgesTest::eachChangeRecords);
        Edge.of("Terms", "and that returns neither an error nor NONE", HistoryEdgesTest::errorsAndNoneDoNotRecord);
        Edge.of("Terms", "records the state before it", HistoryEdgesTest::theStateBefore);
        Edge.of("Terms", "if there are 4 already, the oldest one is dropped.", HistoryEdgesTest::theOldestIsDropped);
        Edge.of("Terms", "There is one snapshot, empty at first.", HistoryEdgesTest::noSnapshotAtFirst);
        Edge.of("Terms", "The state is everything", HistoryEdgesTest::everythingComesBack);
        Edge.of("Terms", "except the text", HistoryEdgesTest::theTextIsNotOfTheState);
        Edge.of("Terms", "except the text, the history", HistoryEdgesTest::theHistoryIsNotOfTheState);
        Edge.of("Terms", "except the text, the history and the snapshot.", HistoryEdgesTest::theSnapshotIsNotOfTheState);
    }

    private static void promises() {
        Edge.of("Promise 14:", "Restores the latest state of the history, and removes it from there.",
                HistoryEdgesTest::theLatestIsRemoved);
        Edge.of("Promise 14:", "Returns how many states are left", HistoryEdgesTest::howManyAreLeft);
        Edge.of("Promise 14:", "NONE if the history is empty", HistoryEdgesTest::anEmptyHistory);
        Edge.of("Promise 15:", "Takes a snapshot of the state, in place of an earlier one.",
                HistoryEdgesTest::inPlaceOfAnEarlierOne);
        Edge.of("Promise 15:", "Returns how many tries are kept.", HistoryEdgesTest::keepAnswersHowMany);
        Edge.of("Promise 16:", "Restores the state of the snapshot, which stays.", HistoryEdgesTest::theSnapshotStays);
        Edge.of("Promise 16:", "This is a change.", HistoryEdgesTest::restoreIsAChange);
        Edge.of("Promise 16:", "Returns how many tries are kept then", HistoryEdgesTest::restoreAnswersHowMany);
        Edge.of("Promise 16:", "NONE if there is no snapshot", HistoryEdgesTest::noSnapshotAtFirst);
    }

    private static void fourStates() {
        for (int changes = 0; changes <= 6; changes++) {
            TryLoops x = new TryLoops();
            for (int i = 1; i <= changes; i++) {
                x.step(1, 10 * i);
            }
            int due = Math.min(changes, 4);
            Due.is("states after " + changes, x.total(10), due);
            for (int left = due - 1; left >= 0; left--) {
                Due.is("undo()", x.undo(), left);
            }
            Due.is("no more", x.undo(), -5);
            Due.is("cell(0)", x.cell(0), 10 * (changes - due));
        }
    }

    /** An object of two tries and two loops, with a text, of which the history is empty. */
    private static TryLoops ready(Consumer<TryLoops> more) {
        TryLoops x = new TryLoops();
        Due.aTry(x, 1, 3, 1, 5);
        Due.aTry(x, 1, 4, 1, 6);
        x.generalise(0, 1);
        x.fold(0);
        more.accept(x);
        Due.text(x, "2(a1)");
        // four steps push the earlier states out, and are undone
        for (int i = 0; i < 4; i++) {
            Due.holds("a change is done", x.step(2, 0) >= 0);
        }
        for (int left = 3; left >= 0; left--) {
            Due.is("undo()", x.undo(), left);
        }
        return x;
    }

    private static void records(String call, Consumer<TryLoops> more, ToIntFunction<TryLoops> change, int due) {
        TryLoops x = ready(more);
        String before = Picture.of(x);
        Due.is(call, change.applyAsInt(x), due);
        Due.is("states after " + call, x.total(10), 1);
        Due.is("undo() of " + call, x.undo(), 0);
        Due.holds("all is as before " + call, Picture.of(x).equals(before));
    }

    private static void eachChangeRecords() {
        Consumer<TryLoops> nothing = x -> { };
        Consumer<TryLoops> opened = TryLoops::record;
        records("step", nothing, x -> x.step(0, 29), 0);
        records("a step that leaves all but the count as it was", nothing, x -> x.step(0, 0), 6);
        records("a test that fails", nothing, x -> x.step(5, 5), 100);
        records("a step of an open try", opened, x -> x.step(1, 99), 99);
        records("record", nothing, TryLoops::record, 2);
        records("end of an empty try", opened, TryLoops::end, 100);
        records("end of a try", x -> { x.record(); x.step(1, 6); }, TryLoops::end, 2);
        records("dropTry", nothing, x -> x.dropTry(0), 1);
        records("generalise", nothing, x -> x.generalise(1, 0), 2);
        records("fold", nothing, x -> x.fold(1), 2);
        records("setTurns", nothing, x -> x.setTurns(1, 99), 2);
        records("dropLoop", nothing, x -> x.dropLoop(0), 1);
        records("play", nothing, x -> x.play(0), 4);
        records("perform", nothing, TryLoops::perform, 2);
        records("restore", x -> { x.keep(); x.step(1, 77); }, TryLoops::restore, 2);
    }

    private static void doesNotRecord(String call, Consumer<TryLoops> more, ToIntFunction<TryLoops> asked, int due) {
        TryLoops x = ready(more);
        Due.is("a step, to have a state", x.step(0, 7), 0);
        Due.is(call, asked.applyAsInt(x), due);
        Due.is("states after " + call, x.total(10), 1);
        Due.is("undo() of the step before", x.undo(), 0);
        Due.is("hand", x.total(0), 0);
    }

    private static void errorsAndNoneDoNotRecord() {
        Consumer<TryLoops> nothing = x -> { };
        Consumer<TryLoops> opened = TryLoops::record;
        doesNotRecord("step of no verb", nothing, x -> x.step(6, 0), -1);
        doesNotRecord("step out of range", nothing, x -> x.step(0, 30), -2);
        doesNotRecord("record while open", opened, TryLoops::record, -4);
        doesNotRecord("end of none", nothing, TryLoops::end, -4);
        doesNotRecord("dropTry of none", nothing, x -> x.dropTry(2), -1);
        doesNotRecord("generalise of none", nothing, x -> x.generalise(0, 2), -1);
        doesNotRecord("generalise of one", nothing, x -> x.generalise(0, 0), -4);
        doesNotRecord("generalise while full", HistoryEdgesTest::sixLoops, x -> x.generalise(0, 1), -3);
        doesNotRecord("fold of none", nothing, x -> x.fold(2), -1);
        doesNotRecord("fold of a step alone", x -> Due.aTry(x, 1, 6), x -> x.fold(2), -4);
        doesNotRecord("fold while full", HistoryEdgesTest::sixLoops, x -> x.fold(0), -3);
        doesNotRecord("setTurns of none", nothing, x -> x.setTurns(2, 5), -1);
        doesNotRecord("setTurns out of range", nothing, x -> x.setTurns(0, 100), -2);
        doesNotRecord("setTurns as many as already", nothing, x -> x.setTurns(0, 2), -5);
        doesNotRecord("dropLoop of none", nothing, x -> x.dropLoop(2), -1);
        doesNotRecord("play of none", nothing, x -> x.play(2), -1);
        doesNotRecord("play while open", opened, x -> x.play(0), -4);
        doesNotRecord("perform of a fault", nothing, x -> x.type('x') > 0 ? x.perform() : 0, -105);
        doesNotRecord("perform while open", opened, TryLoops::perform, -4);
        doesNotRecord("restore of none", nothing, TryLoops::restore, -5);
        // methods that are not described as a change
        doesNotRecord("type", nothing, x -> x.type('x'), 6);
        doesNotRecord("clearText", nothing, TryLoops::clearText, 5);
        doesNotRecord("keep", nothing, TryLoops::keep, 2);
        doesNotRecord("cell", nothing, x -> x.cell(0), 6);
        doesNotRecord("ofTry", nothing, x -> x.ofTry(0, 1, 1), 5);
        doesNotRecord("ofLoop", nothing, x -> x.ofLoop(0, 0, 2), 1001);
        doesNotRecord("length", nothing, x -> x.length(0, 2), 2);
        doesNotRecord("total", nothing, x -> x.total(0), 7);
        doesNotRecord("alike", nothing, x -> x.alike(0, 1, 0), 2);
        doesNotRecord("bestPair", nothing, x -> x.bestPair(0), 1);
        doesNotRecord("fits", nothing, x -> x.fits(1, 0), 2);
        doesNotRecord("mostTurns", nothing, x -> x.mostTurns(0), 95);
        doesNotRecord("ifPlayed", nothing, x -> x.ifPlayed(0, 99, 0), 191);
        doesNotRecord("fewestTurns", nothing, x -> x.fewestTurns(0, 7, 6), 2);
        fullDoesNotRecord();
    }

    private static void sixLoops(TryLoops x) {
        for (int i = 2; i < 6; i++) {
            Due.is("fold(0)", x.fold(0), i);
        }
    }

    private static void fullDoesNotRecord() {
        TryLoops x = new TryLoops();
        x.record();
        Due.steps(x, Due.times(12, 2, 1));
        x.undo();
        x.step(2, 5);
        Due.is("a thirteenth step", x.step(2, 1), -3);
        Due.is("states", x.total(10), 4);
        Due.is("undo() of the twelfth", x.undo(), 3);
        Due.is("cell(0)", x.cell(0), 11);
        TryLoops y = new TryLoops();
        for (int i = 0; i < 6; i++) {
            Due.aTry(y, 1, i);
        }
        y.undo();
        y.end();
        Due.is("record() of a seventh", y.record(), -3);
        Due.is("undo() of the sixth end", y.undo(), 3);
        Due.is("the sixth is open", y.total(3), 1);
    }

    private static void theStateBefore() {
        TryLoops x = new TryLoops();
        x.step(1, 10);
        x.step(1, 20);
        Due.is("undo()", x.undo(), 1);
        Due.is("the state before, not after it", x.cell(0), 10);
        x.step(1, 30);
        Due.is("undo()", x.undo(), 1);
        Due.is("the state before, not the one undone", x.cell(0), 10);
        Due.is("undo()", x.undo(), 0);
        Due.is("the first one", x.cell(0), 0);
    }

    private static void theOldestIsDropped() {
        for (int changes = 4; changes <= 12; changes++) {
            TryLoops x = new TryLoops();
            for (int i = 1; i <= changes; i++) {
                x.step(1, i);
            }
            for (int back = 1; back <= 4; back++) {
                Due.is("undo()", x.undo(), 4 - back);
                Due.is("the state before", x.cell(0), changes - back);
            }
            Due.is("older ones are dropped", x.undo(), -5);
            Due.is("cell(0)", x.cell(0), changes - 4);
            Due.is("a change after that", x.step(1, 99), 99);
            Due.is("undo()", x.undo(), 0);
            Due.is("cell(0)", x.cell(0), changes - 4);
        }
    }

    private static void noSnapshotAtFirst() {
        TryLoops x = new TryLoops();
        Due.is("restore()", x.restore(), -5);
        x.step(1, 5);
        x.record();
        Due.is("restore() while a try is open", x.restore(), -5);
        Due.is("cell(0)", x.cell(0), 5);
        Due.is("steps of the open one", x.total(3), 0);
        Due.is("states", x.total(10), 2);
        x.undo();
        Due.is("undo() makes no snapshot", x.restore(), -5);
        Due.is("keep()", x.keep(), 0);
        Due.is("restore()", x.restore(), 0);
    }

    /** Changes all that there is to be changed. */
    private static void changeEverything(TryLoops x) {
        if (x.total(3) >= 0) {
            x.end();
        }
        x.dropTry(0);
        x.dropLoop(0);
        x.setTurns(0, 77);
        x.step(0, 20);
        x.step(1, 1);
        x.step(5, 0);
        x.play(0);
        Due.aTry(x, 4, 3, 3, 2);
        x.record();
        x.step(2, 9);
    }

    private static void everythingComesBack() {
        Consumer<TryLoops> played = x -> x.play(1);
        Consumer<TryLoops> opened = x -> { x.record(); x.step(2, 4); x.step(5, 0); };
        for (Consumer<TryLoops> more : List.of(played, opened)) {
            TryLoops x = ready(more);
            String before = withoutStates(Picture.of(x));
            x.keep();
            changeEverything(x);
            Due.holds("much is changed", !withoutStates(Picture.of(x)).equals(before));
            x.restore();
            Due.holds("restore() brings all back", withoutStates(Picture.of(x)).equals(before));
        }
        TryLoops y = ready(x -> { x.record(); x.step(2, 4); });
        String before = withoutStates(Picture.of(y));
        y.end();
        y.play(0);
        y.dropTry(0);
        y.dropLoop(0);
        for (int left = 3; left >= 0; left--) {
            Due.is("undo()", y.undo(), left);
        }
        Due.holds("undo() brings all back", withoutStates(Picture.of(y)).equals(before));
    }

    /** Without the totals 10 and 11, the last ones in their line: they are no part of the state. */
    private static String withoutStates(String picture) {
        return picture.replaceFirst("(?m)^(totals.*) \\d+ \\d+$", "$1");
    }

    private static void theTextIsNotOfTheState() {
        TryLoops x = new TryLoops();
        Due.text(x, "a1");
        x.step(1, 5);
        x.keep();
        Due.text(x, "a20;a1");
        x.undo();
        Due.is("length after undo()", x.total(11), 6);
        x.restore();
        Due.is("length after restore()", x.total(11), 6);
        Due.is("perform()", x.perform(), 2);
        Due.is("cell(0)", x.cell(0), 26);
        x.clearText();
        x.undo();
        Due.is("an empty text after undo()", x.total(11), 0);
    }

    private static void theHistoryIsNotOfTheState() {
        TryLoops x = new TryLoops();
        x.step(1, 1);
        x.keep();
        x.step(1, 2);
        x.step(1, 3);
        Due.is("restore()", x.restore(), 0);
        Due.is("the states since then, and one more", x.total(10), 4);
        Due.is("undo() of it", x.undo(), 3);
        Due.is("cell(0)", x.cell(0), 3);
        Due.is("undo() of what was before it", x.undo(), 2);
        Due.is("cell(0)", x.cell(0), 2);
    }

    private static void theSnapshotIsNotOfTheState() {
        TryLoops x = new TryLoops();
        x.step(1, 1);
        x.keep();
        x.step(1, 2);
        x.keep();
        x.undo();
        Due.is("cell(0)", x.cell(0), 1);
        Due.is("restore()", x.restore(), 0);
        Due.is("the latest snapshot, though its state was undone", x.cell(0), 2);
        x.undo();
        x.undo();
        Due.is("cell(0)", x.cell(0), 0);
        Due.is("one that was taken after this state", x.restore(), 0);
        Due.is("cell(0)", x.cell(0), 2);
    }

    private static void theLatestIsRemoved() {
        TryLoops x = new TryLoops();
        for (int i = 1; i <= 4; i++) {
            x.step(1, i);
        }
        Due.is("undo()", x.undo(), 3);
        Due.is("cell(0)", x.cell(0), 3);
        Due.is("another state than before", x.undo(), 2);
        Due.is("cell(0)", x.cell(0), 2);
        x.step(1, 50);
        Due.is("states", x.total(10), 3);
        Due.is("undo() of the new change", x.undo(), 2);
        Due.is("cell(0)", x.cell(0), 2);
        Due.is("undo() is no change that is undone", x.undo(), 1);
        Due.is("cell(0)", x.cell(0), 1);
    }

    private static void howManyAreLeft() {
        for (int changes = 1; changes <= 4; changes++) {
            TryLoops x = new TryLoops();
            for (int i = 0; i < changes; i++) {
                x.step(2, 1);
            }
            for (int left = changes - 1; left >= 0; left--) {
                Due.is("undo()", x.undo(), left);
                Due.is("states", x.total(10), left);
            }
        }
    }

    private static void anEmptyHistory() {
        TryLoops x = new TryLoops();
        Due.is("of a new object", x.undo(), -5);
        x.type('a');
        x.keep();
        Due.is("of no change", x.undo(), -5);
        x.step(1, 5);
        x.undo();
        Due.is("of one that was undone", x.undo(), -5);
        Due.is("states", x.total(10), 0);
        for (int i = 1; i <= 5; i++) {
            x.step(1, i);
        }
        for (int i = 0; i < 4; i++) {
            x.undo();
        }
        String before = Picture.of(x);
        Due.is("of five changes, of which four were undone", x.undo(), -5);
        Due.holds("nothing is changed", Picture.of(x).equals(before));
    }

    private static void inPlaceOfAnEarlierOne() {
        TryLoops x = new TryLoops();
        x.keep();
        x.step(1, 7);
        x.keep();
        x.step(1, 8);
        x.restore();
        Due.is("the later one", x.cell(0), 7);
        x.step(1, 9);
        x.restore();
        Due.is("the same one again", x.cell(0), 7);
        x.undo();
        x.undo();
        x.undo();
        x.undo();
        Due.is("all four are undone", x.cell(0), 7);
    }

    private static void keepAnswersHowMany() {
        TryLoops x = new TryLoops();
        for (int i = 0; i < 6; i++) {
            Due.is("keep()", x.keep(), i);
            x.record();
            x.step(1, 1);
            Due.is("keep() while one is open, which is not kept", x.keep(), i);
            x.end();
        }
        Due.is("keep()", x.keep(), 6);
    }

    private static void theSnapshotStays() {
        TryLoops x = new TryLoops();
        Due.aTry(x, 1, 5);
        x.keep();
        for (int i = 0; i < 6; i++) {
            x.dropTry(0);
            x.step(1, 50 + i);
            Due.is("restore()", x.restore(), 1);
            Due.is("cell(0)", x.cell(0), 5);
            Due.is("length", x.length(0, 0), 1);
        }
        // what is done to the state that was restored does not reach the snapshot
        x.record();
        x.step(1, 6);
        x.end();
        Due.is("restore()", x.restore(), 1);
        Due.is("tries", x.total(2), 1);
        Due.is("and once more, with no change between", x.restore(), 1);
        // nor what is done to the state that was taken
        TryLoops y = new TryLoops();
        y.record();
        y.step(1, 1);
        y.keep();
        y.step(1, 2);
        Due.is("restore()", y.restore(), 0);
        Due.is("steps of the open one", y.total(3), 1);
    }

    private static void restoreIsAChange() {
        TryLoops x = new TryLoops();
        x.keep();
        Due.is("keep() is none", x.total(10), 0);
        x.restore();
        Due.is("even one that changes nothing", x.total(10), 1);
        for (int i = 0; i < 5; i++) {
            x.step(1, 1 + i);
        }
        x.restore();
        Due.is("with 4 states already", x.total(10), 4);
        Due.is("undo()", x.undo(), 3);
        Due.is("cell(0)", x.cell(0), 5);
    }

    private static void restoreAnswersHowMany() {
        for (int kept = 0; kept <= 6; kept++) {
            TryLoops x = new TryLoops();
            for (int i = 0; i < kept; i++) {
                Due.aTry(x, 1, i);
            }
            x.keep();
            if (kept > 0) {
                x.dropTry(0);
            } else {
                Due.aTry(x, 1, 1);
            }
            Due.is("restore()", x.restore(), kept);
            Due.is("tries", x.total(2), kept);
        }
        TryLoops y = new TryLoops();
        y.record();
        y.step(1, 1);
        y.keep();
        y.end();
        Due.is("the open one is not kept", y.restore(), 0);
        Due.is("it is open", y.total(3), 1);
    }
}
