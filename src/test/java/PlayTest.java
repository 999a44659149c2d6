/** Promise 10 (play), and the row after it. */
public final class PlayTest {
    public static void main(String[] args) {
        byItsTurns();
        byANumberOutOfItsRange();
        everyRange();
        byATest();
        theLastStepDecides();
        errors();
        aPlayIsOneChange();
        Due.end();
    }

    private static void byItsTurns() {
        // go 2 by 3, write 40 by -10
        TryLoops x = Due.looped(new int[] {0, 1}, new int[] {2, 40}, new int[] {3, -10}, 4);
        Due.steps(x, 0, 0);
        int before = x.total(5);
        Due.is("play(0)", x.play(0), 8);
        Due.is("reason", x.total(8), 0);
        Due.is("cell(2)", x.cell(2), 40);
        Due.is("cell(5)", x.cell(5), 30);
        Due.is("cell(8)", x.cell(8), 20);
        Due.is("cell(11)", x.cell(11), 10);
        Due.is("hand", x.total(0), 11);
        Due.is("steps done", x.total(5), before + 8);
        Due.is("plays", x.total(7), 1);
        Due.is("tests failed", x.total(6), 0);
        Due.is("turns stay", x.length(0, 2), 4);
        x.setTurns(0, 1);
        Due.is("one turn", x.play(0), 2);
        Due.is("plays", x.total(7), 2);
        x.setTurns(0, 5);
        Due.is("five turns", x.play(0), 10);
        Due.is("cell(14)", x.cell(14), 0);
        x.setTurns(0, 6);
        Due.is("a sixth turn ends at its write", x.play(0), 11);
        Due.is("reason", x.total(8), 1);
        Due.is("hand", x.total(0), 17);
    }

    private static void byANumberOutOfItsRange() {
        TryLoops x = Due.looped(new int[] {2, 0, 2}, new int[] {1, 28, 5}, new int[] {0, 1, 0}, 99);
        Due.steps(x, 0, 28, 1, 0, 0, 29, 1, 0, 0, 0, 1, 0);
        Due.is("play(0)", x.play(0), 7);
        Due.is("reason", x.total(8), 1);
        Due.is("cell(0)", x.cell(0), 1);
        Due.is("cell(28)", x.cell(28), 6);
        Due.is("cell(29)", x.cell(29), 6);
        Due.is("hand", x.total(0), 29);
        // the next play begins by the turn 0 again
        Due.is("play(0)", x.play(0), 7);
        Due.is("plays", x.total(7), 2);
    }

    private static void everyRange() {
        int[] most = {29, 99, 99, 29, 29, 99};
        for (int verb = 0; verb < 6; verb++) {
            TryLoops up = Due.looped(new int[] {verb}, new int[] {most[verb] - 2}, new int[] {1}, 9);
            Due.steps(up, 0, 0, 1, 0);
            Due.is("up by verb " + verb, up.play(0), 3);
            Due.is("reason", up.total(8), 1);
            TryLoops down = Due.looped(new int[] {verb}, new int[] {2}, new int[] {-1}, 9);
            Due.steps(down, 0, 0, 1, 0);
            Due.is("down by verb " + verb, down.play(0), 3);
            Due.is("reason", down.total(8), 1);
        }
    }

    private static void byATest() {
        // test 10 by -3, add 2
        TryLoops x = Due.looped(new int[] {5, 2}, new int[] {10, 2}, new int[] {-3, 0}, 9);
        Due.steps(x, 0, 0, 1, 1);
        int failed = x.total(6);
        int done = x.total(5);
        // 1 <= 10, 3 <= 7, 5 > 4
        Due.is("play(0)", x.play(0), 5);
        Due.is("reason", x.total(8), 2);
        Due.is("cell(0)", x.cell(0), 5);
        Due.is("tests failed", x.total(6), failed + 1);
        Due.is("steps done", x.total(5), done + 5);
        Due.steps(x, 1, 11);
        Due.is("the first step fails", x.play(0), 1);
        Due.is("reason", x.total(8), 2);
        Due.is("cell(0)", x.cell(0), 11);
        Due.steps(x, 1, 0);
        x.setTurns(0, 2);
        Due.is("before the test fails", x.play(0), 4);
        Due.is("reason", x.total(8), 0);
    }

    private static void theLastStepDecides() {
        TryLoops x = Due.looped(new int[] {2, 5}, new int[] {1, 3}, new int[] {0, 0}, 4);
        Due.steps(x, 1, 0);
        Due.is("a test that fails as the last step", x.play(0), 8);
        Due.is("reason", x.total(8), 2);
        Due.steps(x, 1, 0);
        x.setTurns(0, 3);
        Due.is("none fails", x.play(0), 6);
        Due.is("reason", x.total(8), 0);
    }

    private static void errors() {
        TryLoops x = Due.looped(new int[] {2}, new int[] {1}, new int[] {0}, 3);
        int states = x.total(10);
        int cell = x.cell(0);
        int[] wrong = {-1, 1, Integer.MIN_VALUE, Integer.MAX_VALUE};
        for (int loop : wrong) {
            Due.is("play(" + loop + ")", x.play(loop), -1);
        }
        x.record();
        Due.is("a try is open", x.play(0), -4);
        Due.is("unknown ahead of not possible", x.play(1), -1);
        Due.is("cell(0)", x.cell(0), cell);
        Due.is("plays", x.total(7), 0);
        Due.is("reason", x.total(8), -5);
        Due.is("states", x.total(10), states);
        Due.is("end()", x.end(), 100);
        Due.is("play(0)", x.play(0), 3);
    }

    private static void aPlayIsOneChange() {
        TryLoops x = Due.looped(new int[] {2, 5}, new int[] {1, 4}, new int[] {0, 0}, 9);
        Due.steps(x, 1, 0);
        Due.is("play(0)", x.play(0), 10);
        Due.is("cell(0)", x.cell(0), 5);
        Due.is("tests failed", x.total(6), 1);
        Due.is("undo", x.undo(), 3);
        Due.is("cell(0)", x.cell(0), 0);
        Due.is("plays", x.total(7), 0);
        Due.is("reason", x.total(8), -5);
        Due.is("tests failed", x.total(6), 0);
        Due.is("no try is kept by it", x.total(2), 0);
    }
}
