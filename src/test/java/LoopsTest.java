/** Promises 6 (generalise), 7 (fold), 8 (setTurns), 9 (dropLoop), 19 (ofLoop), 20 (length). */
public final class LoopsTest {
    public static void main(String[] args) {
        generalise();
        whatCannotBeGeneralised();
        generaliseInOrderOfErrors();
        fold();
        foldByTheLeastLength();
        whatCannotBeFolded();
        foldInOrderOfErrors();
        setTurns();
        dropLoop();
        theRoomOfAnotherLoop();
        ofLoop();
        length();
        changesCanBeUndone();
        Due.end();
    }

    private static void body(TryLoops x, int loop, int... verbNumberStride) {
        Due.is("length(" + loop + ", 1)", x.length(loop, 1), verbNumberStride.length / 3);
        for (int i = 0; i < verbNumberStride.length / 3; i++) {
            Due.is("verb " + i, x.ofLoop(loop, i, 0), verbNumberStride[3 * i]);
            Due.is("number " + i, x.ofLoop(loop, i, 1), verbNumberStride[3 * i + 1]);
            Due.is("stride " + i, x.ofLoop(loop, i, 2), 1000 + verbNumberStride[3 * i + 2]);
        }
    }

    private static void generalise() {
        TryLoops x = new TryLoops();
        Due.aTry(x, 0, 3, 1, 0, 2, 99, 3, 7, 5, 99);
        Due.aTry(x, 0, 5, 1, 99, 2, 0, 3, 7, 5, 98);
        Due.is("generalise(0, 1)", x.generalise(0, 1), 0);
        body(x, 0, 0, 3, 2, 1, 0, 99, 2, 99, -99, 3, 7, 0, 5, 99, -1);
        Due.is("turns", x.length(0, 2), 2);
        Due.is("generalise(1, 0)", x.generalise(1, 0), 1);
        body(x, 1, 0, 5, -2, 1, 99, -99, 2, 0, 99, 3, 7, 0, 5, 98, 1);
        Due.is("turns", x.length(1, 2), 2);
        Due.is("loops", x.total(4), 2);
        Due.is("tries", x.total(2), 2);
        Due.is("the tries stay", x.ofTry(0, 0, 1), 3);
        x.dropTry(0);
        body(x, 0, 0, 3, 2, 1, 0, 99, 2, 99, -99, 3, 7, 0, 5, 99, -1);
    }

    private static void whatCannotBeGeneralised() {
        TryLoops x = new TryLoops();
        Due.aTry(x, 1, 1, 2, 2);
        Due.aTry(x, 2, 1, 1, 2);
        Due.aTry(x, 1, 1);
        Due.aTry(x, 1, 1, 2, 2, 1, 1);
        Due.aTry(x, 1, 1, 2, 2);
        for (int one = 0; one < 5; one++) {
            for (int other = 0; other < 5; other++) {
                if (one + other != 4 || one % 4 != 0) {
                    Due.is("generalise(" + one + ", " + other + ")", x.generalise(one, other), -4);
                }
            }
        }
        Due.is("loops", x.total(4), 0);
        Due.is("equal ones can be", x.generalise(0, 4), 0);
        body(x, 0, 1, 1, 0, 2, 2, 0);
    }

    private static void generaliseInOrderOfErrors() {
        TryLoops x = new TryLoops();
        Due.aTry(x, 1, 1);
        Due.aTry(x, 1, 2);
        Due.aTry(x, 2, 2);
        int[] wrong = {-1, 3, Integer.MIN_VALUE, Integer.MAX_VALUE};
        for (int number : wrong) {
            Due.is("unknown first one", x.generalise(number, 0), -1);
            Due.is("unknown second one", x.generalise(0, number), -1);
            Due.is("the same unknown one", x.generalise(number, number), -1);
        }
        for (int i = 0; i < 6; i++) {
            Due.is("generalise", x.generalise(0, 1), i);
        }
        Due.is("full", x.generalise(0, 1), -3);
        Due.is("not possible ahead of full", x.generalise(0, 2), -4);
        Due.is("not possible ahead of full", x.generalise(1, 1), -4);
        Due.is("unknown ahead of full", x.generalise(0, 3), -1);
        Due.is("states", x.total(10), 4);
        Due.is("undo", x.undo(), 3);
        Due.is("loops", x.total(4), 5);
        x.record();
        Due.steps(x, 1, 5);
        Due.is("the open one is no try", x.generalise(0, 3), -1);
        Due.is("others can be while one is open", x.generalise(0, 1), 5);
    }

    private static void fold() {
        TryLoops x = new TryLoops();
        Due.aTry(x, 0, 1, 2, 3, 0, 3, 2, 3, 0, 5, 2, 3);
        Due.is("fold(0)", x.fold(0), 0);
        body(x, 0, 0, 1, 2, 2, 3, 0);
        Due.is("turns", x.length(0, 2), 3);
        Due.aTry(x, 1, 9, 1, 6, 1, 3, 1, 0);
        Due.is("fold(1)", x.fold(1), 1);
        body(x, 1, 1, 9, -3);
        Due.is("turns", x.length(1, 2), 4);
        Due.aTry(x, 1, 99, 1, 0);
        Due.is("fold(2)", x.fold(2), 2);
        body(x, 2, 1, 99, -99);
        Due.is("turns", x.length(2, 2), 2);
        Due.aTry(x, 2, 1, 2, 1, 2, 1, 2, 1, 2, 1, 2, 1, 2, 1, 2, 1, 2, 1, 2, 1, 2, 1, 2, 1);
        Due.is("fold(3)", x.fold(3), 3);
        body(x, 3, 2, 1, 0);
        Due.is("turns", x.length(3, 2), 12);
        Due.is("the tries stay", x.total(2), 4);
    }

    private static void foldByTheLeastLength() {
        TryLoops x = new TryLoops();
        // by 1: no, the rises differ; by 2: yes; by 4 it could be, too
        Due.aTry(x, 1, 0, 1, 5, 1, 1, 1, 4, 1, 2, 1, 3, 1, 3, 1, 2);
        Due.is("fold(0)", x.fold(0), 0);
        body(x, 0, 1, 0, 1, 1, 5, -1);
        Due.is("turns", x.length(0, 2), 4);
        // by 2 it fails at the last step alone; by 4 there are two turns, and any rise will do
        Due.aTry(x, 1, 0, 1, 5, 1, 1, 1, 4, 1, 2, 1, 3, 1, 3, 1, 1);
        Due.is("fold(1)", x.fold(1), 1);
        body(x, 1, 1, 0, 2, 1, 5, -2, 1, 1, 2, 1, 4, -3);
        Due.is("turns", x.length(1, 2), 2);
        // 5 does not divide 12, 6 does
        Due.aTry(x, 0, 1, 1, 1, 2, 1, 3, 1, 5, 1, 1, 9, 0, 2, 1, 2, 2, 2, 3, 2, 5, 2, 1, 8);
        Due.is("fold(2)", x.fold(2), 2);
        body(x, 2, 0, 1, 1, 1, 1, 1, 2, 1, 1, 3, 1, 1, 5, 1, 1, 1, 9, -1);
        // by 3, of 9 steps
        Due.aTry(x, 0, 1, 1, 1, 2, 1, 0, 1, 1, 2, 2, 1, 0, 1, 1, 3, 2, 1);
        Due.is("fold(3)", x.fold(3), 3);
        body(x, 3, 0, 1, 0, 1, 1, 1, 2, 1, 0);
        Due.is("turns", x.length(3, 2), 3);
    }

    private static void whatCannotBeFolded() {
        TryLoops x = new TryLoops();
        Due.aTry(x, 1, 1);
        Due.is("one step", x.fold(0), -4);
        Due.aTry(x, 1, 1, 2, 1);
        Due.is("two verbs", x.fold(1), -4);
        Due.aTry(x, 1, 1, 1, 2, 1, 4);
        Due.is("another rise", x.fold(2), -4);
        Due.aTry(x, 1, 1, 2, 1, 1, 1, 2, 1, 1, 1);
        Due.is("2 does not divide 5", x.fold(3), -4);
        Due.aTry(x, 1, 1, 2, 1, 1, 2, 2, 2, 1, 3, 3, 3);
        Due.is("the last verb", x.fold(4), -4);
        Due.aTry(x, 1, 1, 2, 1, 2, 1, 1, 1);
        Due.is("mirrored", x.fold(5), -4);
        Due.is("loops", x.total(4), 0);
    }

    private static void foldInOrderOfErrors() {
        TryLoops x = new TryLoops();
        Due.is("fold(0)", x.fold(0), -1);
        Due.aTry(x, 1, 1, 1, 2);
        Due.aTry(x, 1, 1);
        int[] wrong = {-1, 2, Integer.MIN_VALUE, Integer.MAX_VALUE};
        for (int number : wrong) {
            Due.is("fold(" + number + ")", x.fold(number), -1);
        }
        for (int i = 0; i < 6; i++) {
            Due.is("fold(0)", x.fold(0), i);
        }
        Due.is("full", x.fold(0), -3);
        Due.is("not possible ahead of full", x.fold(1), -4);
        Due.is("unknown ahead of full", x.fold(2), -1);
        x.dropLoop(0);
        x.record();
        Due.steps(x, 1, 1, 1, 1);
        Due.is("the open one is no try", x.fold(2), -1);
        Due.is("another can be while one is open", x.fold(0), 5);
    }

    private static void setTurns() {
        TryLoops x = new TryLoops();
        Due.is("setTurns(0, 2)", x.setTurns(0, 2), -1);
        Due.aTry(x, 1, 1, 1, 2, 1, 3);
        x.fold(0);
        int states = x.total(10);
        int[] wrong = {-1, 1, Integer.MIN_VALUE, Integer.MAX_VALUE};
        for (int loop : wrong) {
            Due.is("unknown loop", x.setTurns(loop, 2), -1);
            Due.is("unknown ahead of range", x.setTurns(loop, 0), -1);
        }
        int[] outOfRange = {0, 100, -1, Integer.MIN_VALUE, Integer.MAX_VALUE};
        for (int turns : outOfRange) {
            Due.is("setTurns(0, " + turns + ")", x.setTurns(0, turns), -2);
        }
        Due.is("as many already", x.setTurns(0, 3), -5);
        Due.is("nothing is recorded in the history", x.total(10), states);
        Due.is("setTurns(0, 99)", x.setTurns(0, 99), 3);
        Due.is("setTurns(0, 1)", x.setTurns(0, 1), 99);
        Due.is("as many already", x.setTurns(0, 1), -5);
        Due.is("length(0, 2)", x.length(0, 2), 1);
        Due.is("undo", x.undo(), 3);
        Due.is("length(0, 2)", x.length(0, 2), 99);
    }

    private static void dropLoop() {
        TryLoops x = new TryLoops();
        Due.is("dropLoop(0)", x.dropLoop(0), -1);
        Due.aTry(x, 1, 1, 1, 2);
        Due.aTry(x, 2, 1, 2, 2, 2, 3);
        Due.aTry(x, 3, 1, 4, 2, 3, 3, 4, 4);
        x.fold(0);
        x.fold(1);
        x.fold(2);
        int[] wrong = {-1, 3, 6, Integer.MIN_VALUE, Integer.MAX_VALUE};
        for (int loop : wrong) {
            Due.is("dropLoop(" + loop + ")", x.dropLoop(loop), -1);
        }
        Due.is("dropLoop(1)", x.dropLoop(1), 2);
        body(x, 0, 1, 1, 1);
        body(x, 1, 3, 1, 2, 4, 2, 2);
        Due.is("turns", x.length(0, 2), 2);
        Due.is("turns", x.length(1, 2), 2);
        Due.is("dropLoop(0)", x.dropLoop(0), 1);
        body(x, 0, 3, 1, 2, 4, 2, 2);
        Due.is("undo", x.undo(), 3);
        body(x, 0, 1, 1, 1);
        Due.is("undo", x.undo(), 2);
        body(x, 1, 2, 1, 1);
        Due.is("turns", x.length(1, 2), 3);
        Due.is("loops", x.total(4), 3);
        Due.is("dropLoop(2)", x.dropLoop(2), 2);
        Due.is("dropLoop(1)", x.dropLoop(1), 1);
        Due.is("dropLoop(0)", x.dropLoop(0), 0);
    }

    private static void theRoomOfAnotherLoop() {
        TryLoops x = new TryLoops();
        Due.aTry(x, 1, 1, 2, 2, 3, 3, 1, 2, 2, 3, 3, 4);
        Due.aTry(x, 0, 7, 0, 9);
        for (int i = 0; i < 6; i++) {
            Due.is("fold(0)", x.fold(0), i);
        }
        Due.is("dropLoop(2)", x.dropLoop(2), 5);
        Due.is("a shorter one in the last place", x.fold(1), 5);
        body(x, 5, 0, 7, 2);
        body(x, 4, 1, 1, 1, 2, 2, 1, 3, 3, 1);
        Due.is("undo()", x.undo(), 3);
        Due.is("a longer one again", x.fold(0), 5);
        body(x, 5, 1, 1, 1, 2, 2, 1, 3, 3, 1);
        Due.is("mostTurns(5)", x.mostTurns(5), 27);
    }

    private static void ofLoop() {
        TryLoops x = new TryLoops();
        Due.aTry(x, 0, 5, 1, 99, 2, 50);
        Due.aTry(x, 0, 6, 1, 0, 2, 50);
        x.generalise(0, 1);
        Due.is("last number", x.ofLoop(0, 0, 3), 10006);
        Due.is("last number", x.ofLoop(0, 1, 3), 10000);
        x.setTurns(0, 99);
        Due.is("last number beyond", x.ofLoop(0, 0, 3), 10103);
        Due.is("last number below", x.ofLoop(0, 1, 3), 10000 + 99 - 98 * 99);
        Due.is("last number of stride 0", x.ofLoop(0, 2, 3), 10050);
        x.setTurns(0, 1);
        Due.is("last number of one turn", x.ofLoop(0, 1, 3), 10099);
        int[] wrong = {-1, 1, Integer.MIN_VALUE, Integer.MAX_VALUE};
        for (int loop : wrong) {
            Due.is("ofLoop(" + loop + ", 0, 0)", x.ofLoop(loop, 0, 0), -1);
            Due.is("unknown loop first", x.ofLoop(loop, 0, 4), -1);
        }
        int[] noStep = {-1, 3, Integer.MIN_VALUE, Integer.MAX_VALUE};
        for (int step : noStep) {
            Due.is("ofLoop(0, " + step + ", 0)", x.ofLoop(0, step, 0), -1);
            Due.is("unknown step first", x.ofLoop(0, step, -1), -1);
        }
        Due.is("what 4", x.ofLoop(0, 0, 4), -2);
        Due.is("what -1", x.ofLoop(0, 2, -1), -2);
        Due.is("what max", x.ofLoop(0, 2, Integer.MAX_VALUE), -2);
    }

    private static void length() {
        TryLoops x = new TryLoops();
        Due.aTry(x, 1, 1, 2, 2, 1, 3, 2, 4, 1, 5, 2, 6);
        x.fold(0);
        Due.is("steps of the try", x.length(0, 0), 6);
        Due.is("steps of the body", x.length(0, 1), 2);
        Due.is("turns", x.length(0, 2), 3);
        Due.is("no such loop", x.length(1, 1), -1);
        Due.is("no such loop", x.length(1, 2), -1);
        Due.is("no such loop", x.length(-1, 1), -1);
        Due.is("no such loop", x.length(Integer.MAX_VALUE, 2), -1);
        Due.is("what is asked first", x.length(1, 3), -2);
        x.dropTry(0);
        Due.is("the loop stays", x.length(0, 2), 3);
        Due.is("the try does not", x.length(0, 0), -1);
    }

    private static void changesCanBeUndone() {
        TryLoops x = new TryLoops();
        Due.aTry(x, 1, 1, 1, 2);
        x.fold(0);
        Due.is("undo of fold", x.undo(), 3);
        Due.is("loops", x.total(4), 0);
        Due.is("ofLoop(0, 0, 0)", x.ofLoop(0, 0, 0), -1);
        Due.is("fold(0)", x.fold(0), 0);
    }
}
