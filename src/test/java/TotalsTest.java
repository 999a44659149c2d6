/** Promise 21 (total). */
public final class TotalsTest {
    public static void main(String[] args) {
        allOfThem();
        rowsOfVerbs();
        wrongArguments();
        Due.end();
    }

    private static void totals(TryLoops x, int... due) {
        for (int what = 0; what < due.length; what++) {
            Due.is("total(" + what + ")", x.total(what), due[what]);
        }
    }

    private static void allOfThem() {
        TryLoops x = new TryLoops();
        totals(x, 0, 0, 0, -5, 0, 0, 0, 0, -5, 0, 0, 0);
        Due.steps(x, 0, 12, 1, 99);
        totals(x, 12, 99, 0, -5, 0, 2, 0, 0, -5, 0, 2, 0);
        x.record();
        totals(x, 12, 99, 0, 0, 0, 2, 0, 0, -5, 0, 3, 0);
        Due.steps(x, 5, 98, 0, 13, 1, 99);
        totals(x, 13, 198, 0, 3, 0, 5, 1, 0, -5, 0, 4, 0);
        x.end();
        totals(x, 13, 198, 1, -5, 0, 5, 1, 0, -5, 1, 4, 0);
        Due.aTry(x, 5, 99, 0, 14, 1, 1);
        totals(x, 14, 199, 2, -5, 0, 8, 1, 0, -5, 1, 4, 0);
        x.generalise(0, 1);
        totals(x, 14, 199, 2, -5, 1, 8, 1, 0, -5, 1, 4, 0);
        // turn 0: test 98 of the 1, go 13, write 99; turn 1: test 99, go 14, write 1
        x.play(0);
        totals(x, 14, 199, 2, -5, 1, 14, 1, 1, 0, 1, 4, 0);
        Due.text(x, "2(w0,t0);2(g29+1);5(t0+1,w1,t0)");
        totals(x, 14, 199, 2, -5, 1, 14, 1, 1, 0, 1, 4, 31);
        Due.is("perform()", x.perform(), 4 + 1 + 3);
        totals(x, 29, 199, 2, -5, 1, 22, 2, 4, 2, 1, 4, 31);
        x.undo();
        totals(x, 14, 199, 2, -5, 1, 14, 1, 1, 0, 1, 3, 31);
    }

    private static void rowsOfVerbs() {
        TryLoops x = new TryLoops();
        Due.is("total(9)", x.total(9), 0);
        x.record();
        Due.steps(x, 1, 1);
        Due.is("the open one does not count", x.total(9), 0);
        x.end();
        Due.is("total(9)", x.total(9), 1);
        Due.aTry(x, 1, 2);
        Due.is("other numbers", x.total(9), 1);
        Due.aTry(x, 1, 2, 1, 3);
        Due.is("a longer one", x.total(9), 2);
        Due.aTry(x, 1, 2, 2, 3);
        Due.is("another verb", x.total(9), 3);
        Due.aTry(x, 2, 2, 1, 3);
        Due.is("another order", x.total(9), 4);
        Due.aTry(x, 1, 9, 2, 9);
        Due.is("one as an earlier one", x.total(9), 4);
        x.dropTry(3);
        Due.is("the earlier one dropped", x.total(9), 4);
        x.dropTry(3);
        Due.is("total(9)", x.total(9), 3);
        // short tries where longer ones stood before
        TryLoops y = new TryLoops();
        Due.aTry(y, 1, 1, 2, 2);
        Due.aTry(y, 1, 1, 3, 3);
        y.dropTry(0);
        y.dropTry(0);
        Due.aTry(y, 1, 5);
        Due.aTry(y, 1, 6);
        Due.is("only what is there counts", y.total(9), 1);
    }

    private static void wrongArguments() {
        TryLoops x = new TryLoops();
        int[] wrong = {-1, 12, 13, Integer.MIN_VALUE, Integer.MAX_VALUE};
        for (int what : wrong) {
            Due.is("total(" + what + ")", x.total(what), -2);
        }
    }
}
