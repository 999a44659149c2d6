/** The boundary cases of how loops are made and told: the terms, and promises 6 to 9, 19 and 20. */
public final class LoopEdgesTest {
    private static final int[] EXTREMES = {Integer.MIN_VALUE, -100, -2, -1, 6, 7, 100, Integer.MAX_VALUE};

    public static void main(String[] args) {
        loops();
        generalising();
        folding();
        turnsAndDrops();
        telling();
        Due.end();
    }

    private static void loops() {
        Edge.of("Terms", "A loop has a body of 1 to 12 steps", LoopEdgesTest::bodiesOf1And12);
        Edge.of("Terms", "of which each has a stride (-99 to 99)", LoopEdgesTest::theGreatestStrides);
        Edge.of("Terms", "and a number of turns (1 to 99)", LoopEdgesTest::turnsOf1And99);
        Edge.of("Terms", "In the turn r, from 0 on, a step has its number plus r times its stride.",
                LoopEdgesTest::theFirstAndTheLastTurn);
        Edge.of("Terms", "There are at most 6 loops", LoopEdgesTest::theSixthAndTheSeventh);
        Edge.of("Terms", "numbered as tries are", LoopEdgesTest::thoseBehindMoveUp);
    }

    private static void generalising() {
        Edge.of("Terms", "Two tries can be generalised if they are different ones", LoopEdgesTest::theSameTry);
        Edge.of("Terms", "and have the same verbs in the same order", LoopEdgesTest::otherVerbs);
        Edge.of("Terms", "The loop has the steps of the first one as its body", LoopEdgesTest::theStepsOfTheFirst);
        Edge.of("Terms", "its number in the second try less that in the first one", LoopEdgesTest::theSignOfTheStride);
        Edge.of("Terms", "it has 2 turns", LoopEdgesTest::twoTurns);
        Edge.of("Promise 6:", "`other`: another one", LoopEdgesTest::theSameTry);
        Edge.of("Promise 6:", "Returns the number of the loop", LoopEdgesTest::generaliseAnswersTheNumber);
        Edge.of("Promise 6:", "UNKNOWN", LoopEdgesTest::generaliseUnknown);
        Edge.of("Promise 6:", "NOT_POSSIBLE if they cannot be generalised", LoopEdgesTest::otherVerbs);
        Edge.of("Promise 6:", "FULL if there are 6 loops", LoopEdgesTest::generaliseWhileFull);
    }

    private static void folding() {
        Edge.of("Terms", "if l divides n", LoopEdgesTest::lengthsThatDoNotDivide);
        Edge.of("Terms", "n is at least 2 * l", LoopEdgesTest::halfATryAtMost);
        Edge.of("Terms", "the steps that are l, 2 * l and so on behind it have the same verb", LoopEdgesTest::anotherVerb);
        Edge.of("Terms", "and numbers that rise by the same stride each time", LoopEdgesTest::anotherRise);
        Edge.of("Terms", "(perhaps 0, or below 0)", LoopEdgesTest::risesOf0AndBelow);
        Edge.of("Terms", "The loop has the first l steps as its body, with these strides, and n / l turns.",
                LoopEdgesTest::theTurnsOfAFold);
        Edge.of("Promise 7:", "by the least length that can be", LoopEdgesTest::theLeastLength);
        Edge.of("Promise 7:", "Returns the number of the loop", LoopEdgesTest::foldAnswersTheNumber);
        Edge.of("Promise 7:", "UNKNOWN", LoopEdgesTest::foldUnknown);
        Edge.of("Promise 7:", "NOT_POSSIBLE if there is no such length", LoopEdgesTest::noLength);
        Edge.of("Promise 7:", "FULL if there are 6 loops", LoopEdgesTest::foldWhileFull);
    }

    private static void turnsAndDrops() {
        Edge.of("Promise 8:", "`turns`: 1 to 99", LoopEdgesTest::setTurnsOutOfRange);
        Edge.of("Promise 8:", "Returns the previous turns", LoopEdgesTest::setTurnsAnswersThePrevious);
        Edge.of("Promise 8:", "UNKNOWN", LoopEdgesTest::setTurnsUnknown);
        Edge.of("Promise 8:", "OUT_OF_RANGE", LoopEdgesTest::setTurnsOutOfRange);
        Edge.of("Promise 8:", "NONE if it has as many already", LoopEdgesTest::setTurnsAsAlready);
        Edge.of("Promise 9:", "Returns how many loops are left", LoopEdgesTest::dropAnswersHowMany);
        Edge.of("Promise 9:", "UNKNOWN", LoopEdgesTest::dropUnknown);
    }

    private static void telling() {
        Edge.of("Promise 19:", "`step`: a step of its body, from 0 on", LoopEdgesTest::bodiesOf1And12);
        Edge.of("Promise 19:", "1 for its number in the turn 0", LoopEdgesTest::theNumberInTheTurn0);
        Edge.of("Promise 19:", "2 for its stride plus 1000", LoopEdgesTest::theGreatestStrides);
        Edge.of("Promise 19:", "3 for its number in the last turn plus 10000 (in its range or not)",
                LoopEdgesTest::theLastNumber);
        Edge.of("Promise 19:", "UNKNOWN (the loop or the step)", LoopEdgesTest::ofLoopUnknown);
        Edge.of("Promise 19:", "OUT_OF_RANGE", LoopEdgesTest::ofLoopOutOfRange);
        Edge.of("Promise 20:", "1 for those of the body of a loop", LoopEdgesTest::bodiesOf1And12);
        Edge.of("Promise 20:", "2 for the turns of a loop", LoopEdgesTest::turnsOf1And99);
        Edge.of("Promise 20:", "or loop (otherwise)", LoopEdgesTest::lengthOfUnknownLoops);
        Edge.of("Promise 20:", "OUT_OF_RANGE if what is not 0 to 2 (asked first)", LoopEdgesTest::lengthOutOfRange);
    }

    /** Its body as verb, number, stride and so on; and that there is no step behind it. */
    private static void body(TryLoops x, int loop, int turns, int... verbNumberStride) {
        int steps = verbNumberStride.length / 3;
        Due.is("length of the body", x.length(loop, 1), steps);
        Due.is("turns", x.length(loop, 2), turns);
        for (int i = 0; i < steps; i++) {
            Due.is("verb " + i, x.ofLoop(loop, i, 0), verbNumberStride[3 * i]);
            Due.is("number " + i, x.ofLoop(loop, i, 1), verbNumberStride[3 * i + 1]);
            Due.is("stride " + i, x.ofLoop(loop, i, 2), 1000 + verbNumberStride[3 * i + 2]);
        }
        Due.is("step " + steps, x.ofLoop(loop, steps, 0), -1);
        Due.is("step -1", x.ofLoop(loop, -1, 0), -1);
    }

    /** A try that can be folded, with so many loops of it: loop i has the body of write 10. */
    private static TryLoops withLoops(int count) {
        TryLoops x = new TryLoops();
        Due.aTry(x, 1, 10, 1, 11);
        for (int i = 0; i < count; i++) {
            Due.is("fold(0)", x.fold(0), i);
        }
        return x;
    }

    /** Loop i writes 20 + i, by the stride i + 1. */
    private static TryLoops withDifferentLoops() {
        TryLoops x = new TryLoops();
        for (int i = 0; i < 6; i++) {
            Due.aTry(x, 1, 20 + i, 1, 21 + 2 * i);
            Due.is("fold(0)", x.fold(0), i);
            x.dropTry(0);
        }
        return x;
    }

    private static int foldOf(int... verbsAndNumbers) {
        TryLoops x = new TryLoops();
        Due.aTry(x, verbsAndNumbers);
        return x.fold(0);
    }

    private static void bodiesOf1And12() {
        TryLoops x = new TryLoops();
        Due.aTry(x, 4, 3);
        Due.aTry(x, 4, 5);
        Due.is("generalise(0, 1)", x.generalise(0, 1), 0);
        body(x, 0, 2, 4, 3, 2);
        TryLoops y = new TryLoops();
        int[] due = new int[36];
        for (int turn = 0; turn < 2; turn++) {
            y.record();
            for (int i = 0; i < 12; i++) {
                due[3 * i] = i % 6;
                due[3 * i + 1] = i;
                due[3 * i + 2] = i;
                y.step(i % 6, i + turn * i);
            }
            y.end();
        }
        Due.is("generalise(0, 1)", y.generalise(0, 1), 0);
        body(y, 0, 2, due);
        Due.aTry(y, 4, 3, 4, 4);
        Due.is("fold(2)", y.fold(2), 1);
        body(y, 1, 2, 4, 3, 1);
    }

    private static void theGreatestStrides() {
        TryLoops x = new TryLoops();
        Due.aTry(x, 1, 0, 1, 99, 0, 0, 0, 29, 2, 7);
        Due.aTry(x, 1, 99, 1, 0, 0, 29, 0, 0, 2, 7);
        Due.is("generalise(0, 1)", x.generalise(0, 1), 0);
        body(x, 0, 2, 1, 0, 99, 1, 99, -99, 0, 0, 29, 0, 29, -29, 2, 7, 0);
        Due.aTry(x, 1, 99, 1, 0);
        Due.is("fold(2)", x.fold(2), 1);
        body(x, 1, 2, 1, 99, -99);
        Due.aTry(x, 1, 0, 1, 99);
        Due.is("fold(3)", x.fold(3), 2);
        body(x, 2, 2, 1, 0, 99);
    }

    private static void turnsOf1And99() {
        TryLoops x = new TryLoops();
        Due.aTry(x, 2, 1, 2, 1);
        x.fold(0);
        Due.is("99 turns", x.setTurns(0, 99), 2);
        Due.is("length(0, 2)", x.length(0, 2), 99);
        Due.is("play of 99 turns", x.play(0), 99);
        Due.is("1 turn", x.setTurns(0, 1), 99);
        Due.is("length(0, 2)", x.length(0, 2), 1);
        Due.is("play of 1 turn", x.play(0), 1);
        Due.is("100 turns", x.setTurns(0, 100), -2);
        Due.is("0 turns", x.setTurns(0, 0), -2);
        Due.is("length(0, 2)", x.length(0, 2), 1);
    }

    private static void theFirstAndTheLastTurn() {
        TryLoops x = new TryLoops();
        Due.aTry(x, 1, 1, 1, 2);
        x.fold(0);
        x.setTurns(0, 1);
        Due.is("play of the turn 0", x.play(0), 1);
        Due.is("its own number", x.cell(0), 1);
        x.setTurns(0, 99);
        Due.is("play up to the turn 98", x.play(0), 99);
        Due.is("its number and 98 strides", x.cell(0), 99);
        Due.is("no number is out of its range", x.total(8), 0);
        TryLoops y = new TryLoops();
        Due.aTry(y, 1, 98, 1, 97);
        y.fold(0);
        y.setTurns(0, 99);
        Due.is("play down to the turn 98", y.play(0), 99);
        Due.is("its number less 98", y.cell(0), 0);
    }

    private static void theSixthAndTheSeventh() {
        TryLoops x = withDifferentLoops();
        Due.is("loops", x.total(4), 6);
        body(x, 5, 2, 1, 25, 6);
        Due.aTry(x, 1, 90, 1, 91);
        Due.aTry(x, 1, 90, 1, 92);
        Due.is("a seventh by fold", x.fold(0), -3);
        Due.is("a seventh by generalise", x.generalise(0, 1), -3);
        Due.is("loops", x.total(4), 6);
        Due.is("no loop 6", x.length(6, 1), -1);
        body(x, 0, 2, 1, 20, 1);
        body(x, 5, 2, 1, 25, 6);
        Due.is("play of the sixth", x.play(5), 2);
    }

    private static void thoseBehindMoveUp() {
        for (int dropped = 0; dropped < 6; dropped++) {
            TryLoops x = withDifferentLoops();
            x.setTurns(dropped, 50);
            for (int loop = dropped + 1; loop < 6; loop++) {
                x.setTurns(loop, 60 + loop);
            }
            Due.is("dropLoop(" + dropped + ")", x.dropLoop(dropped), 5);
            for (int loop = 0; loop < 5; loop++) {
                int was = loop < dropped ? loop : loop + 1;
                body(x, loop, loop < dropped ? 2 : 60 + was, 1, 20 + was, was + 1);
            }
            Due.is("no loop 5", x.length(5, 1), -1);
            Due.aTry(x, 3, 1, 3, 2);
            Due.is("the next one is the last", x.fold(0), 5);
            body(x, 5, 2, 3, 1, 1);
        }
    }

    private static void theSameTry() {
        TryLoops x = new TryLoops();
        for (int i = 0; i < 6; i++) {
            Due.aTry(x, 1, 5, 2, 6);
        }
        for (int one = 0; one < 6; one++) {
            Due.is("generalise(" + one + ", " + one + ")", x.generalise(one, one), -4);
        }
        Due.is("loops", x.total(4), 0);
        Due.is("a different one that is equal", x.generalise(0, 5), 0);
        body(x, 0, 2, 1, 5, 0, 2, 6, 0);
    }

    private static void otherVerbs() {
        TryLoops x = new TryLoops();
        Due.aTry(x, 1, 1, 2, 1, 3, 1);
        Due.aTry(x, 1, 1, 2, 1, 4, 1);
        Due.aTry(x, 5, 1, 2, 1, 3, 1);
        Due.aTry(x, 2, 1, 1, 1, 3, 1);
        Due.aTry(x, 1, 1, 2, 1);
        Due.aTry(x, 1, 1, 2, 1, 3, 1, 1, 1);
        String[] why = {"", "the last verb", "the first verb", "another order", "a shorter one", "a longer one"};
        for (int other = 1; other < 6; other++) {
            Due.is(why[other], x.generalise(0, other), -4);
            Due.is(why[other] + ", turned", x.generalise(other, 0), -4);
        }
        Due.is("loops", x.total(4), 0);
        TryLoops y = new TryLoops();
        Due.aTry(y, Due.times(12, 2, 1));
        y.record();
        Due.steps(y, Due.times(11, 2, 1));
        Due.steps(y, 1, 1);
        y.end();
        Due.is("the twelfth verb", y.generalise(0, 1), -4);
        Due.aTry(y, Due.times(11, 2, 1));
        Due.is("eleven of twelve", y.generalise(0, 2), -4);
    }

    private static void theStepsOfTheFirst() {
        TryLoops x = new TryLoops();
        Due.aTry(x, 0, 1, 1, 99, 5, 99);
        Due.aTry(x, 0, 29, 1, 0, 5, 0);
        Due.is("generalise(1, 0)", x.generalise(1, 0), 0);
        body(x, 0, 2, 0, 29, -28, 1, 0, 99, 5, 0, 99);
        Due.is("generalise(0, 1)", x.generalise(0, 1), 1);
        body(x, 1, 2, 0, 1, 28, 1, 99, -99, 5, 99, -99);
    }

    private static void theSignOfTheStride() {
        TryLoops x = new TryLoops();
        Due.aTry(x, 2, 10);
        Due.aTry(x, 2, 11);
        x.generalise(0, 1);
        x.generalise(1, 0);
        Due.is("up", x.ofLoop(0, 0, 2), 1001);
        Due.is("down", x.ofLoop(1, 0, 2), 999);
        Due.aTry(x, 2, 10);
        x.generalise(0, 2);
        Due.is("neither", x.ofLoop(2, 0, 2), 1000);
    }

    private static void twoTurns() {
        TryLoops x = new TryLoops();
        Due.aTry(x, 2, 10);
        Due.aTry(x, 2, 15);
        x.generalise(0, 1);
        Due.is("turns", x.length(0, 2), 2);
        Due.steps(x, 1, 0);
        Due.is("play(0)", x.play(0), 2);
        Due.is("the steps of both tries", x.cell(0), 25);
        // in the places of loops that had more
        for (int i = 1; i < 6; i++) {
            x.generalise(0, 1);
        }
        for (int loop = 0; loop < 6; loop++) {
            x.setTurns(loop, 90 + loop);
        }
        for (int loop = 5; loop >= 0; loop--) {
            x.dropLoop(loop);
        }
        for (int loop = 0; loop < 6; loop++) {
            x.generalise(0, 1);
            Due.is("turns", x.length(loop, 2), 2);
        }
    }

    private static void generaliseAnswersTheNumber() {
        TryLoops x = new TryLoops();
        Due.aTry(x, 2, 10);
        Due.aTry(x, 2, 15);
        for (int loop = 0; loop < 6; loop++) {
            Due.is("generalise(0, 1)", x.generalise(0, 1), loop);
        }
        x.dropLoop(2);
        x.dropLoop(0);
        Due.is("generalise(0, 1)", x.generalise(0, 1), 4);
    }

    private static void generaliseUnknown() {
        TryLoops x = new TryLoops();
        Due.aTry(x, 2, 10);
        Due.aTry(x, 2, 10);
        for (int number : EXTREMES) {
            Due.is("generalise(" + number + ", 0)", x.generalise(number, 0), -1);
            Due.is("generalise(0, " + number + ")", x.generalise(0, number), -1);
            Due.is("both of them", x.generalise(number, number), -1);
        }
        Due.is("one behind the last", x.generalise(0, 2), -1);
        Due.is("one behind the last", x.generalise(2, 0), -1);
        x.record();
        Due.steps(x, 2, 10);
        Due.is("the open one", x.generalise(0, 2), -1);
        Due.is("the open one", x.generalise(2, 0), -1);
    }

    private static void generaliseWhileFull() {
        TryLoops x = withLoops(5);
        Due.aTry(x, 1, 10, 1, 15);
        Due.is("the sixth", x.generalise(0, 1), 5);
        Due.is("6 loops", x.generalise(0, 1), -3);
        x.dropLoop(5);
        Due.is("5 loops", x.generalise(0, 1), 5);
    }

    private static void lengthsThatDoNotDivide() {
        // each repeats itself by l but for its last, broken turn
        Due.is("2 of 3", foldOf(1, 1, 2, 1, 1, 1), -4);
        Due.is("2 of 5", foldOf(1, 1, 2, 1, 1, 1, 2, 1, 1, 1), -4);
        Due.is("3 of 4", foldOf(1, 1, 2, 1, 3, 1, 1, 1), -4);
        Due.is("3 of 7", foldOf(1, 1, 2, 1, 3, 1, 1, 1, 2, 1, 3, 1, 1, 1), -4);
        Due.is("2 of 9", foldOf(1, 1, 2, 1, 1, 1, 2, 1, 1, 1, 2, 1, 1, 1, 2, 1, 1, 1), -4);
        Due.is("5 of 12", foldOf(0, 1, 1, 1, 2, 1, 3, 1, 4, 1, 0, 1, 1, 1, 2, 1, 3, 1, 4, 1, 0, 1, 1, 1), -4);
        Due.is("2 of 4", foldOf(1, 1, 2, 1, 1, 1, 2, 1), 0);
        Due.is("3 of 6", foldOf(1, 1, 2, 1, 3, 1, 1, 1, 2, 1, 3, 1), 0);
    }

    private static void halfATryAtMost() {
        Due.is("1 of 1", foldOf(1, 1), -4);
        Due.is("1 of 2", foldOf(1, 1, 1, 9), 0);
        Due.is("2 of 2", foldOf(1, 1, 2, 1), -4);
        Due.is("3 of 3", foldOf(1, 1, 2, 1, 3, 1), -4);
        Due.is("6 of 12", foldOf(0, 1, 1, 1, 2, 1, 3, 1, 4, 1, 5, 1, 0, 2, 1, 2, 2, 2, 3, 2, 4, 2, 5, 2), 0);
        Due.is("12 of 12", foldOf(0, 1, 1, 1, 2, 1, 3, 1, 4, 1, 5, 1, 0, 2, 1, 2, 2, 2, 3, 2, 4, 2, 4, 2), -4);
    }

    private static void anotherVerb() {
        Due.is("the last of two", foldOf(1, 1, 2, 1), -4);
        Due.is("the last of twelve", foldOf(2, 1, 2, 1, 2, 1, 2, 1, 2, 1, 2, 1, 2, 1, 2, 1, 2, 1, 2, 1, 2, 1, 1, 1), -4);
        Due.is("the first of twelve", foldOf(1, 1, 2, 1, 2, 1, 2, 1, 2, 1, 2, 1, 2, 1, 2, 1, 2, 1, 2, 1, 2, 1, 2, 1), -4);
        // of a third turn alone, also where the turn is not the last one
        Due.is("in a third turn", foldOf(1, 1, 2, 1, 1, 1, 2, 1, 1, 1, 5, 1), -4);
        Due.is("in a second turn of three", foldOf(1, 1, 2, 1, 1, 1, 5, 1, 1, 1, 2, 1), -4);
        Due.is("in a third turn of four, by 4 it can be", foldOf(1, 1, 2, 1, 1, 1, 5, 1, 1, 1, 2, 1, 1, 1, 5, 1), 0);
    }

    private static void anotherRise() {
        Due.is("the last of three", foldOf(1, 1, 1, 2, 1, 4), -4);
        Due.is("the last stands still", foldOf(1, 1, 1, 2, 1, 2), -4);
        Due.is("up and down", foldOf(1, 1, 1, 2, 1, 1), -4);
        Due.is("a sum that is right in the end", foldOf(1, 1, 1, 3, 1, 4, 1, 7, 1, 9), -4);
        Due.is("the second step of a third turn", foldOf(1, 1, 2, 1, 1, 2, 2, 2, 1, 3, 2, 4), -4);
        Due.is("the first step of a third turn", foldOf(1, 1, 2, 1, 1, 2, 2, 2, 1, 4, 2, 3), -4);
        Due.is("each step by a stride of its own", foldOf(1, 1, 2, 9, 1, 2, 2, 7, 1, 3, 2, 5), 0);
        Due.is("of two turns any rise will do", foldOf(1, 1, 2, 9, 1, 99, 2, 0), 0);
    }

    private static void risesOf0AndBelow() {
        TryLoops x = new TryLoops();
        Due.aTry(x, 1, 5, 1, 5, 1, 5);
        Due.is("0", x.fold(0), 0);
        body(x, 0, 3, 1, 5, 0);
        Due.aTry(x, 1, 9, 1, 8, 1, 7);
        Due.is("-1", x.fold(1), 1);
        body(x, 1, 3, 1, 9, -1);
        Due.aTry(x, 1, 99, 1, 0);
        Due.is("-99", x.fold(2), 2);
        body(x, 2, 2, 1, 99, -99);
        Due.aTry(x, 1, 0, 2, 99, 3, 4, 1, 99, 2, 0, 3, 4);
        Due.is("all of them", x.fold(3), 3);
        body(x, 3, 2, 1, 0, 99, 2, 99, -99, 3, 4, 0);
    }

    private static void theTurnsOfAFold() {
        for (int turns = 2; turns <= 12; turns++) {
            TryLoops x = new TryLoops();
            x.record();
            for (int turn = 0; turn < turns; turn++) {
                Due.steps(x, 1, 7 * turn);
            }
            x.end();
            Due.is("fold(0)", x.fold(0), 0);
            body(x, 0, turns, 1, 0, 7);
        }
        TryLoops y = new TryLoops();
        Due.aTry(y, 0, 1, 1, 1, 2, 1, 3, 1, 4, 1, 5, 1, 0, 2, 1, 3, 2, 4, 3, 5, 4, 6, 5, 7);
        Due.is("6 of 12", y.fold(0), 0);
        body(y, 0, 2, 0, 1, 1, 1, 1, 2, 2, 1, 3, 3, 1, 4, 4, 1, 5, 5, 1, 6);
        Due.aTry(y, 0, 1, 1, 1, 2, 1, 0, 2, 1, 1, 2, 0, 0, 3, 1, 1, 2, 1);
        Due.is("by 3 the last number is not right", y.fold(1), -4);
        y.dropTry(1);
        Due.aTry(y, 0, 1, 1, 1, 2, 2, 0, 2, 1, 1, 2, 1, 0, 3, 1, 1, 2, 0, 0, 4, 1, 1, 2, 0);
        Due.is("by 3 of 12 it is not, by 6 it is", y.fold(1), 1);
        Due.is("length", y.length(1, 1), 6);
    }

    private static void theLeastLength() {
        TryLoops x = new TryLoops();
        Due.aTry(x, Due.times(12, 2, 1));
        Due.is("1, 2, 3, 4 and 6 could be", x.fold(0), 0);
        body(x, 0, 12, 2, 1, 0);
        Due.aTry(x, 1, 1, 2, 1, 1, 2, 2, 2, 1, 3, 2, 3, 1, 4, 2, 4);
        Due.is("2 and 4 could be", x.fold(1), 1);
        body(x, 1, 4, 1, 1, 1, 2, 1, 1);
        Due.aTry(x, 1, 1, 1, 2, 1, 4, 1, 5);
        Due.is("2 could be, not 1", x.fold(2), 2);
        body(x, 2, 2, 1, 1, 3, 1, 2, 3);
        Due.aTry(x, 1, 1, 1, 1, 1, 2, 1, 1, 1, 1, 1, 2, 1, 1, 1, 1, 1, 2, 1, 1, 1, 1, 1, 2);
        Due.is("3 and 6 could be", x.fold(3), 3);
        body(x, 3, 4, 1, 1, 0, 1, 1, 0, 1, 2, 0);
    }

    private static void foldAnswersTheNumber() {
        TryLoops x = withLoops(6);
        x.dropLoop(5);
        x.dropLoop(0);
        Due.is("fold(0)", x.fold(0), 4);
        Due.is("fold(0)", x.fold(0), 5);
        Due.is("loops", x.total(4), 6);
    }

    private static void foldUnknown() {
        TryLoops x = withLoops(1);
        for (int number : EXTREMES) {
            Due.is("fold(" + number + ")", x.fold(number), -1);
        }
        Due.is("one behind the last", x.fold(1), -1);
        x.record();
        Due.steps(x, 1, 1, 1, 2);
        Due.is("the open one", x.fold(1), -1);
        TryLoops y = new TryLoops();
        Due.is("none at all", y.fold(0), -1);
    }

    private static void noLength() {
        TryLoops x = new TryLoops();
        Due.aTry(x, 1, 1);
        Due.is("a step alone", x.fold(0), -4);
        Due.aTry(x, 1, 1, 1, 2, 1, 4);
        Due.is("no rise", x.fold(1), -4);
        Due.is("loops", x.total(4), 0);
        Due.is("states", x.total(10), 4);
        x.undo();
        Due.is("nothing was recorded in the history", x.total(3), 3);
    }

    private static void foldWhileFull() {
        TryLoops x = withLoops(5);
        Due.is("the sixth", x.fold(0), 5);
        Due.is("6 loops", x.fold(0), -3);
        Due.is("6 loops", x.total(4), 6);
        Due.is("undo() of the sixth", x.undo(), 3);
        Due.is("5 loops", x.fold(0), 5);
    }

    private static void setTurnsOutOfRange() {
        TryLoops x = withLoops(6);
        int[] wrong = {Integer.MIN_VALUE, -99, -1, 0, 100, 101, Integer.MAX_VALUE};
        for (int turns : wrong) {
            Due.is("setTurns(5, " + turns + ")", x.setTurns(5, turns), -2);
        }
        Due.is("turns", x.length(5, 2), 2);
        Due.is("setTurns(5, 1)", x.setTurns(5, 1), 2);
        Due.is("setTurns(5, 99)", x.setTurns(5, 99), 1);
        Due.is("another one has its own", x.length(4, 2), 2);
    }

    private static void setTurnsAnswersThePrevious() {
        TryLoops x = withLoops(1);
        int previous = 2;
        int[] turns = {1, 99, 98, 2, 50, 1};
        for (int next : turns) {
            Due.is("setTurns(0, " + next + ")", x.setTurns(0, next), previous);
            previous = next;
        }
        TryLoops y = new TryLoops();
        Due.aTry(y, Due.times(12, 2, 1));
        y.fold(0);
        Due.is("those of a fold", y.setTurns(0, 13), 12);
    }

    private static void setTurnsUnknown() {
        TryLoops x = withLoops(3);
        for (int loop : EXTREMES) {
            Due.is("setTurns(" + loop + ", 5)", x.setTurns(loop, 5), -1);
        }
        Due.is("one behind the last", x.setTurns(3, 5), -1);
        x.dropLoop(2);
        Due.is("one that was dropped", x.setTurns(2, 5), -1);
    }

    private static void setTurnsAsAlready() {
        TryLoops x = withLoops(1);
        Due.is("as it was made", x.setTurns(0, 2), -5);
        x.setTurns(0, 1);
        Due.is("the least", x.setTurns(0, 1), -5);
        x.setTurns(0, 99);
        Due.is("the most", x.setTurns(0, 99), -5);
        x.undo();
        Due.is("after an undo", x.setTurns(0, 1), -5);
        Due.is("which is none no longer", x.setTurns(0, 99), 1);
    }

    private static void dropAnswersHowMany() {
        TryLoops x = withLoops(6);
        for (int left = 5; left >= 0; left--) {
            Due.is("dropLoop of the last", x.dropLoop(left), left);
            Due.is("loops", x.total(4), left);
        }
        TryLoops y = withLoops(6);
        for (int left = 5; left >= 0; left--) {
            Due.is("dropLoop of the first", y.dropLoop(0), left);
        }
        Due.is("none is left", y.dropLoop(0), -1);
    }

    private static void dropUnknown() {
        for (int count = 0; count <= 6; count++) {
            TryLoops x = withLoops(count);
            Due.is("one behind the last of " + count, x.dropLoop(count), -1);
            for (int loop : EXTREMES) {
                Due.is("dropLoop(" + loop + ")", x.dropLoop(loop), -1);
            }
            Due.is("loops", x.total(4), count);
        }
    }

    private static void theNumberInTheTurn0() {
        TryLoops x = new TryLoops();
        Due.aTry(x, 1, 0, 1, 99, 0, 29);
        Due.aTry(x, 1, 99, 1, 0, 0, 0);
        x.generalise(0, 1);
        x.setTurns(0, 99);
        Due.is("0", x.ofLoop(0, 0, 1), 0);
        Due.is("99", x.ofLoop(0, 1, 1), 99);
        Due.is("29", x.ofLoop(0, 2, 1), 29);
    }

    private static void theLastNumber() {
        TryLoops x = new TryLoops();
        Due.aTry(x, 1, 0, 1, 99, 0, 29, 0, 7);
        Due.aTry(x, 1, 99, 1, 0, 0, 0, 0, 7);
        x.generalise(0, 1);
        int[][] due = {{1, 0, 99, 29, 7}, {2, 99, 0, 0, 7}, {3, 198, -99, -29, 7},
            {99, 98 * 99, 99 - 98 * 99, 29 - 98 * 29, 7}};
        for (int[] row : due) {
            x.setTurns(0, row[0]);
            for (int step = 0; step < 4; step++) {
                Due.is("step " + step + " of " + row[0] + " turns", x.ofLoop(0, step, 3), 10000 + row[step + 1]);
            }
        }
    }

    private static void ofLoopUnknown() {
        TryLoops x = withLoops(3);
        for (int number : EXTREMES) {
            Due.is("ofLoop(" + number + ", 0, 0)", x.ofLoop(number, 0, 0), -1);
            Due.is("ofLoop(0, " + number + ", 0)", x.ofLoop(0, number, 0), -1);
        }
        Due.is("one behind the last", x.ofLoop(3, 0, 0), -1);
        Due.is("a step of the try that is none of the body", x.ofLoop(0, 1, 0), -1);
        Due.is("the last", x.ofLoop(2, 0, 0), 1);
    }

    private static void ofLoopOutOfRange() {
        TryLoops x = withLoops(6);
        int[] wrong = {Integer.MIN_VALUE, -1, 4, 5, Integer.MAX_VALUE};
        for (int what : wrong) {
            Due.is("ofLoop(5, 0, " + what + ")", x.ofLoop(5, 0, what), -2);
        }
        Due.is("what 0", x.ofLoop(5, 0, 0), 1);
        Due.is("what 3", x.ofLoop(5, 0, 3), 10011);
    }

    private static void lengthOfUnknownLoops() {
        for (int count = 0; count <= 6; count++) {
            TryLoops x = withLoops(count);
            for (int what = 1; what <= 2; what++) {
                Due.is("one behind the last of " + count, x.length(count, what), -1);
                for (int loop : EXTREMES) {
                    Due.is("length(" + loop + ", " + what + ")", x.length(loop, what), -1);
                }
            }
        }
        // a number that is one of a try, and none of a loop; and the other way round
        TryLoops y = withLoops(2);
        Due.aTry(y, 1, 1);
        Due.aTry(y, 1, 1);
        Due.is("try 2", y.length(2, 0), 1);
        Due.is("loop 2", y.length(2, 1), -1);
        Due.is("loop 2", y.length(2, 2), -1);
        y.dropTry(0);
        y.dropTry(0);
        y.dropTry(0);
        Due.is("try 1", y.length(1, 0), -1);
        Due.is("loop 1", y.length(1, 1), 1);
    }

    private static void lengthOutOfRange() {
        TryLoops x = withLoops(1);
        int[] wrong = {Integer.MIN_VALUE, -1, 3, 4, Integer.MAX_VALUE};
        for (int what : wrong) {
            Due.is("of what there is", x.length(0, what), -2);
            for (int number : EXTREMES) {
                Due.is("asked first: length(" + number + ", " + what + ")", x.length(number, what), -2);
            }
        }
    }
}
