/**
 * Promises 22 (alike), 23 (bestPair), 24 (fits), 25 (mostTurns), 26 (ifPlayed) and
 * 27 (fewestTurns).
 */
public final class ForesightTest {
    public static void main(String[] args) {
        alike();
        alikeErrors();
        bestPair();
        bestPairOfEquals();
        bestPairErrors();
        fits();
        fitsErrors();
        mostTurns();
        ifPlayed();
        ifPlayedErrors();
        ifPlayedChangesNothing();
        fewestTurns();
        fewestTurnsOfAPlayCutShort();
        fewestTurnsErrors();
        Due.end();
    }

    private static void alike() {
        TryLoops x = new TryLoops();
        Due.aTry(x, 0, 1, 1, 2, 2, 3, 1, 4, 3, 5, 0, 1, 1, 2);
        Due.aTry(x, 1, 2, 3, 5, 2, 3, 0, 1, 1, 4, 0, 2);
        Due.is("verbs", x.alike(0, 1, 0), 4);
        Due.is("verbs, turned", x.alike(1, 0, 0), 4);
        Due.is("steps", x.alike(0, 1, 1), 3);
        Due.is("steps, turned", x.alike(1, 0, 1), 3);
        Due.is("itself", x.alike(0, 0, 0), 7);
        Due.is("itself", x.alike(0, 0, 1), 7);
        Due.is("itself", x.alike(1, 1, 0), 6);
        Due.aTry(x, 5, 1);
        Due.is("nothing", x.alike(0, 2, 0), 0);
        Due.is("nothing", x.alike(2, 0, 1), 0);
        Due.aTry(x, 2, 1, 2, 2, 2, 3, 2, 4, 2, 5, 2, 6, 2, 7, 2, 8, 2, 9, 2, 10, 2, 11, 2, 12);
        Due.aTry(x, 2, 12, 2, 11, 2, 10, 2, 9, 2, 8, 2, 7, 2, 6, 2, 5, 2, 4, 2, 3, 2, 2, 2, 1);
        Due.is("twelve verbs", x.alike(3, 4, 0), 12);
        Due.is("one step of twelve", x.alike(3, 4, 1), 1);
        Due.is("twelve steps", x.alike(4, 4, 1), 12);
        Due.is("of one alone", x.alike(0, 3, 0), 1);
        Due.is("a step of it", x.alike(0, 3, 1), 1);
        Due.is("the first ones again", x.alike(0, 1, 0), 4);
        Due.aTry(x, 1, 2, 1, 2, 1, 2);
        Due.is("each step counts once", x.alike(0, 5, 1), 2);
        Due.is("each verb counts once", x.alike(0, 5, 0), 3);
    }

    private static void alikeErrors() {
        TryLoops x = new TryLoops();
        Due.aTry(x, 1, 1);
        int[] wrong = {-1, 1, Integer.MIN_VALUE, Integer.MAX_VALUE};
        for (int number : wrong) {
            Due.is("unknown one", x.alike(number, 0, 0), -1);
            Due.is("unknown other", x.alike(0, number, 1), -1);
            Due.is("unknown first", x.alike(0, number, 2), -1);
        }
        Due.is("what 2", x.alike(0, 0, 2), -2);
        Due.is("what -1", x.alike(0, 0, -1), -2);
        x.record();
        Due.steps(x, 1, 1);
        Due.is("the open one is no try", x.alike(0, 1, 0), -1);
        Due.is("states", x.total(10), 4);
    }

    private static void bestPair() {
        TryLoops x = new TryLoops();
        Due.is("no tries", x.bestPair(0), -5);
        Due.aTry(x, 1, 1, 1, 2, 1, 3);
        Due.is("one try", x.bestPair(0), -5);
        Due.aTry(x, 2, 1, 1, 2, 1, 3);
        Due.is("other verbs", x.bestPair(1), -5);
        Due.aTry(x, 1, 1, 1, 5, 1, 4);
        Due.is("bestPair(0)", x.bestPair(0), 2);
        Due.is("bestPair(1)", x.bestPair(1), 1);
        Due.aTry(x, 2, 9, 1, 2, 1, 3);
        Due.is("bestPair(0)", x.bestPair(0), 13);
        Due.is("bestPair(1)", x.bestPair(1), 2);
        Due.aTry(x, 1, 9, 1, 5, 1, 4);
        Due.is("2 zeros here, too", x.bestPair(0), 13);
        Due.aTry(x, 1, 9, 1, 5, 1, 4);
        Due.is("bestPair(0)", x.bestPair(0), 45);
        Due.is("bestPair(1)", x.bestPair(1), 3);
        x.dropTry(4);
        Due.is("bestPair(0)", x.bestPair(0), 13);
        x.dropTry(1);
        Due.is("bestPair(0)", x.bestPair(0), 13);
        Due.is("bestPair(1)", x.bestPair(1), 2);
    }

    private static void bestPairOfEquals() {
        TryLoops x = new TryLoops();
        Due.aTry(x, 1, 1);
        Due.aTry(x, 1, 2);
        Due.is("no stride is 0", x.bestPair(0), 1);
        Due.is("no stride is 0", x.bestPair(1), 0);
        Due.aTry(x, 1, 3);
        Due.is("the lowest second one", x.bestPair(0), 1);
        Due.aTry(x, 1, 3);
        Due.is("more zeros", x.bestPair(0), 23);
        Due.aTry(x, 1, 2);
        Due.is("as many zeros, a lower first one", x.bestPair(0), 14);
        Due.aTry(x, 1, 2);
        Due.is("as many zeros, a lower second one", x.bestPair(0), 14);
        Due.is("bestPair(1)", x.bestPair(1), 1);
    }

    private static void bestPairErrors() {
        TryLoops x = new TryLoops();
        int[] wrong = {-1, 2, Integer.MIN_VALUE, Integer.MAX_VALUE};
        for (int what : wrong) {
            Due.is("bestPair(" + what + ")", x.bestPair(what), -2);
        }
        Due.aTry(x, 1, 1);
        x.record();
        Due.steps(x, 1, 1);
        Due.is("the open one is no try", x.bestPair(0), -5);
        x.end();
        for (int i = 0; i < 6; i++) {
            x.generalise(0, 1);
        }
        Due.is("no room for a loop is needed", x.bestPair(0), 1);
        Due.is("bestPair(1)", x.bestPair(1), 1);
    }

    private static void fits() {
        TryLoops x = new TryLoops();
        int loop = Due.makeLoop(x, new int[] {0, 1}, new int[] {3, 50}, new int[] {2, -5}, 2);
        Due.is("one turn", x.fits(loop, Due.aTry(x, 0, 3, 1, 50)), 1);
        Due.is("its turns", x.fits(loop, Due.aTry(x, 0, 3, 1, 50, 0, 5, 1, 45)), 2);
        int more = Due.aTry(x, 0, 3, 1, 50, 0, 5, 1, 45, 0, 7, 1, 40, 0, 9, 1, 35, 0, 11, 1, 30, 0, 13, 1, 25);
        Due.is("more than it has", x.fits(loop, more), 6);
        Due.is("half a turn more", x.fits(loop, Due.aTry(x, 0, 3, 1, 50, 0, 5)), -5);
        Due.is("a later turn", x.fits(loop, Due.aTry(x, 0, 5, 1, 45)), -5);
        Due.is("another number in turn 1", x.fits(loop, Due.aTry(x, 0, 3, 1, 50, 0, 5, 1, 44)), -5);
        x.dropTry(0);
        Due.is("another verb in turn 1", x.fits(loop, Due.aTry(x, 0, 3, 1, 50, 0, 5, 2, 45)), -5);
        x.dropTry(0);
        Due.is("half a turn", x.fits(loop, Due.aTry(x, 0, 3)), -5);
        x.dropTry(0);
        x.setTurns(loop, 1);
        Due.is("more than it has", x.fits(loop, 0), -5);
        int six = Due.aTry(x, 0, 3, 1, 50, 0, 5, 1, 45, 0, 7, 1, 40, 0, 9, 1, 35, 0, 11, 1, 30, 0, 13, 1, 25);
        Due.is("more than it has", x.fits(loop, six), 6);
        TryLoops y = new TryLoops();
        Due.aTry(y, 2, 4, 2, 4, 2, 4, 2, 4, 2, 4, 2, 4, 2, 4, 2, 4, 2, 4, 2, 4, 2, 4, 2, 4);
        y.fold(0);
        Due.is("twelve turns", y.fits(0, 0), 12);
        Due.is("one", y.fits(0, Due.aTry(y, 2, 4)), 1);
        Due.is("another verb", y.fits(0, Due.aTry(y, 1, 4)), -5);
        Due.is("another number", y.fits(0, Due.aTry(y, 2, 5)), -5);
    }

    private static void fitsErrors() {
        TryLoops x = new TryLoops();
        Due.aTry(x, 1, 1, 1, 2);
        x.fold(0);
        int[] wrong = {-1, 1, Integer.MIN_VALUE, Integer.MAX_VALUE};
        for (int number : wrong) {
            Due.is("unknown loop", x.fits(number, 0), -1);
            Due.is("unknown try", x.fits(0, number), -1);
        }
        Due.is("fits(0, 0)", x.fits(0, 0), 2);
        x.record();
        Due.steps(x, 1, 1);
        Due.is("the open one is no try", x.fits(0, 1), -1);
    }

    private static int most(int[] verbs, int[] numbers, int[] strides) {
        return Due.looped(verbs, numbers, strides, 2).mostTurns(0);
    }

    private static void mostTurns() {
        Due.is("no bound", most(new int[] {0, 1}, new int[] {29, 99}, new int[] {0, 0}), -5);
        Due.is("go up", most(new int[] {0}, new int[] {0}, new int[] {1}), 30);
        Due.is("go down", most(new int[] {0}, new int[] {29}, new int[] {-1}), 30);
        Due.is("copy up", most(new int[] {3}, new int[] {5}, new int[] {7}), 4);
        Due.is("swap down", most(new int[] {4}, new int[] {20}, new int[] {-7}), 3);
        Due.is("just to the range", most(new int[] {4}, new int[] {21}, new int[] {-7}), 4);
        Due.is("just to the range", most(new int[] {3}, new int[] {1}, new int[] {14}), 3);
        Due.is("write by 99", most(new int[] {1}, new int[] {0}, new int[] {99}), 2);
        // more turns than a loop has by setTurns: the numbers alone are the bound
        Due.is("write up", most(new int[] {1}, new int[] {0}, new int[] {1}), 100);
        Due.is("test down", most(new int[] {5}, new int[] {99}, new int[] {-1}), 100);
        Due.is("add down", most(new int[] {2}, new int[] {98}, new int[] {-1}), 99);
        Due.is("the least of them", most(new int[] {1, 0, 1}, new int[] {0, 10, 50}, new int[] {3, -3, 20}), 3);
        Due.is("the first of them", most(new int[] {1, 0, 1}, new int[] {98, 10, 5}, new int[] {1, 0, 2}), 2);
        // a short loop where a longer one stood before
        TryLoops y = new TryLoops();
        Due.aTry(y, 1, 5, 0, 1, 1, 5, 0, 2);
        Due.aTry(y, 1, 5, 1, 5);
        y.fold(0);
        Due.is("mostTurns(0)", y.mostTurns(0), 29);
        y.dropLoop(0);
        y.fold(1);
        Due.is("nothing of it is left", y.mostTurns(0), -5);
        TryLoops x = Due.looped(new int[] {1}, new int[] {0}, new int[] {3}, 2);
        Due.is("mostTurns(0)", x.mostTurns(0), 34);
        x.setTurns(0, 99);
        Due.is("its own turns do not matter", x.mostTurns(0), 34);
        int[] wrong = {-1, 1, Integer.MIN_VALUE, Integer.MAX_VALUE};
        for (int loop : wrong) {
            Due.is("mostTurns(" + loop + ")", x.mostTurns(loop), -1);
        }
    }

    private static void foreseen(TryLoops x, int turns, int... due) {
        for (int what = 0; what < due.length; what++) {
            Due.is("ifPlayed(0, " + turns + ", " + what + ")", x.ifPlayed(0, turns, what), due[what]);
        }
    }

    private static void ifPlayed() {
        // test 50, add 10, go 3 by 1: the cells from 3 on
        TryLoops x = Due.looped(new int[] {5, 2, 0}, new int[] {50, 10, 3}, new int[] {0, 0, 1}, 2);
        Due.perform(x, "30(g0+1,w0);g1;w40;g5;w51;g1");
        foreseen(x, 1, 3, 0, 101, 3, 1);
        foreseen(x, 2, 6, 0, 111, 4, 2);
        foreseen(x, 3, 9, 0, 121, 5, 3);
        foreseen(x, 4, 10, 2, 121, 5, 3);
        foreseen(x, 99, 10, 2, 121, 5, 3);
        Due.perform(x, "g5;w0;g1");
        foreseen(x, 27, 81, 0, 40 + 270, 29, 27);
        foreseen(x, 28, 83, 1, 40 + 280, 29, 28);
        foreseen(x, 99, 83, 1, 40 + 280, 29, 28);
    }

    private static void ifPlayedErrors() {
        TryLoops x = Due.looped(new int[] {2}, new int[] {1}, new int[] {0}, 5);
        int[] wrong = {-1, 1, Integer.MIN_VALUE, Integer.MAX_VALUE};
        for (int loop : wrong) {
            Due.is("unknown loop", x.ifPlayed(loop, 1, 0), -1);
            Due.is("unknown ahead of range", x.ifPlayed(loop, 0, 5), -1);
        }
        int[] turns = {0, -1, 100, Integer.MIN_VALUE, Integer.MAX_VALUE};
        for (int wrongTurns : turns) {
            Due.is("turns " + wrongTurns, x.ifPlayed(0, wrongTurns, 0), -2);
        }
        Due.is("what -1", x.ifPlayed(0, 1, -1), -2);
        Due.is("what 5", x.ifPlayed(0, 1, 5), -2);
        Due.is("what max", x.ifPlayed(0, 1, Integer.MAX_VALUE), -2);
        Due.is("turns 99", x.ifPlayed(0, 99, 0), 99);
    }

    private static void ifPlayedChangesNothing() {
        TryLoops x = Due.looped(new int[] {2, 5}, new int[] {1, 50}, new int[] {0, -1}, 5);
        Due.steps(x, 0, 2, 1, 0);
        int[] before = new int[12];
        for (int what = 0; what < 12; what++) {
            before[what] = x.total(what);
        }
        for (int what = 0; what < 5; what++) {
            x.ifPlayed(0, 99, what);
        }
        x.fewestTurns(0, 2, 10);
        for (int what = 0; what < 12; what++) {
            Due.is("total(" + what + ")", x.total(what), before[what]);
        }
        Due.is("turns", x.length(0, 2), 5);
        x.record();
        Due.is("while a try is open", x.ifPlayed(0, 3, 0), 6);
        Due.is("while a try is open", x.fewestTurns(0, 2, 3), 3);
        Due.is("open steps", x.total(3), 0);
        x.end();
        Due.is("play(0)", x.play(0), 10);
    }

    private static void fewestTurns() {
        TryLoops x = Due.looped(new int[] {2}, new int[] {7}, new int[] {0}, 2);
        Due.steps(x, 0, 0, 1, 0);
        Due.is("7", x.fewestTurns(0, 0, 7), 1);
        Due.is("14", x.fewestTurns(0, 0, 14), 2);
        // 43 times 7 is 301
        Due.is("1", x.fewestTurns(0, 0, 1), 43);
        Due.is("93", x.fewestTurns(0, 0, 93), 99);
        Due.is("0 would need 100", x.fewestTurns(0, 0, 0), -5);
        Due.is("another cell has it at once", x.fewestTurns(0, 5, 0), 1);
        Due.is("another cell never", x.fewestTurns(0, 5, 1), -5);
        // within a turn a value may come and go
        TryLoops y = Due.looped(new int[] {1, 1}, new int[] {5, 10}, new int[] {1, 1}, 2);
        Due.steps(y, 0, 0, 1, 0);
        Due.is("5 comes and goes", y.fewestTurns(0, 0, 5), -5);
        Due.is("10", y.fewestTurns(0, 0, 10), 1);
        Due.is("12", y.fewestTurns(0, 0, 12), 3);
        Due.is("its own turns do not matter", y.fewestTurns(0, 0, 60), 51);
    }

    private static void fewestTurnsOfAPlayCutShort() {
        // write 90 by 3, go 28 by 1: in the turn 2 the write is done, the go is not
        TryLoops x = Due.looped(new int[] {1, 0}, new int[] {90, 28}, new int[] {3, 1}, 2);
        Due.perform(x, "30(g0+1,w0);g0");
        Due.is("cell 0", x.fewestTurns(0, 0, 90), 1);
        Due.is("cell 28", x.fewestTurns(0, 28, 93), 2);
        Due.is("cell 29, in the turn that is cut short", x.fewestTurns(0, 29, 96), 3);
        Due.is("no turn after it", x.fewestTurns(0, 29, 99), -5);
        // add 1, test 2, add 10: 11, then 12 and the test fails
        TryLoops y = Due.looped(new int[] {2, 5, 2}, new int[] {1, 2, 10}, new int[] {0, 0, 0}, 2);
        Due.perform(y, "w0");
        Due.is("after a turn", y.fewestTurns(0, 0, 11), 1);
        Due.is("in the turn that a test ends", y.fewestTurns(0, 0, 12), 2);
        Due.is("not after it", y.fewestTurns(0, 0, 22), -5);
        Due.is("not within a turn", y.fewestTurns(0, 0, 1), -5);
    }

    private static void fewestTurnsErrors() {
        TryLoops x = Due.looped(new int[] {2}, new int[] {1}, new int[] {0}, 5);
        int[] wrong = {-1, 1, Integer.MIN_VALUE, Integer.MAX_VALUE};
        for (int loop : wrong) {
            Due.is("unknown loop", x.fewestTurns(loop, 0, 0), -1);
        }
        int[] cells = {-1, 30, Integer.MIN_VALUE, Integer.MAX_VALUE};
        for (int cell : cells) {
            Due.is("unknown cell", x.fewestTurns(0, cell, 0), -1);
            Due.is("unknown ahead of range", x.fewestTurns(0, cell, 100), -1);
        }
        int[] values = {-1, 100, Integer.MIN_VALUE, Integer.MAX_VALUE};
        for (int value : values) {
            Due.is("value " + value, x.fewestTurns(0, 0, value), -2);
            Due.is("unknown ahead of range", x.fewestTurns(1, 0, value), -1);
        }
        Due.is("cell 29", x.fewestTurns(0, 29, 0), 1);
    }
}
