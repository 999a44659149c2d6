/** The boundary cases of texts: the terms, and promises 11, 12 and 13. */
public final class TextEdgesTest {
    private static final int[] MOST = {29, 99, 99, 29, 29, 99};
    private static final String VERBS = "gwacst";

    public static void main(String[] args) {
        programs();
        numbers();
        faults();
        typing();
        performing();
        Due.end();
    }

    private static void programs() {
        Edge.of("Terms", "There is a text of at most 60 characters", TextEdgesTest::sixtyCharacters);
        Edge.of("Terms", "empty at first", TextEdgesTest::emptyAtFirst);
        Edge.of("Terms", "A program is a list of one or more items", TextEdgesTest::oneOrMoreItems);
        Edge.of("Terms", "with \";\" between two", TextEdgesTest::onlyBetweenTwoItems);
        Edge.of("Terms", "an item is a step, or a loop", TextEdgesTest::itemsAreStepsOrLoops);
        Edge.of("Terms", "its turns (2 to 99)", TextEdgesTest::turnsFrom2To99);
        Edge.of("Terms", "\"(\", a list of one or more steps with strides", TextEdgesTest::oneOrMoreStepsInALoop);
        Edge.of("Terms", "with \",\" between two", TextEdgesTest::onlyBetweenTwoSteps);
        Edge.of("Terms", "(as many as there is room for, also more than 12)", TextEdgesTest::moreThan12Steps);
        Edge.of("Terms", "and \")\".", TextEdgesTest::theBracketsOfALoop);
        Edge.of("Terms", "A step is its verb, \"g\" go, \"w\" write, \"a\" add, \"c\" copy, \"s\" swap or \"t\" test",
                TextEdgesTest::theSixVerbs);
    }

    private static void numbers() {
        Edge.of("Terms", "and its number, in its range.", TextEdgesTest::rangesOfSteps);
        Edge.of("Terms", "perhaps \"+\" or \"-\" and a number from 1 to 99", TextEdgesTest::stridesFrom1To99);
        Edge.of("Terms", "(without it the stride is 0)", TextEdgesTest::withoutAStride);
        Edge.of("Terms", "A step with a stride is a step", TextEdgesTest::noStrideOutsideOfALoop);
        Edge.of("Terms", "Numbers have no zeros ahead of other digits", TextEdgesTest::noZerosAhead);
        Edge.of("Terms", "a digit by which a number would be too great is not allowed", TextEdgesTest::digitsTooMany);
    }

    private static void faults() {
        Edge.of("Terms", "The fault of the text is the index, from 0, of the first character that is not allowed at its place",
                TextEdgesTest::theFirstFault);
        Edge.of("Terms", "or the length of the text if it ends too early", TextEdgesTest::textsThatEndTooEarly);
        Edge.of("Terms", "(the empty text does)", TextEdgesTest::theEmptyText);
        Edge.of("Terms", "(Behind a \"1\" that begins an item there has to be another digit.)", TextEdgesTest::behindA1);
    }

    private static void typing() {
        Edge.of("Promise 11:", "`character`: any character", TextEdgesTest::anyCharacter);
        Edge.of("Promise 11:", "Returns the length of the text then", TextEdgesTest::sixtyCharacters);
        Edge.of("Promise 11:", "FULL if it has 60 characters", TextEdgesTest::the61stCharacter);
        Edge.of("Promise 12:", "Empties the text.", TextEdgesTest::clearedTexts);
        Edge.of("Promise 12:", "Returns the length that it had.", TextEdgesTest::lengthsThatItHad);
    }

    private static void performing() {
        Edge.of("Promise 13:", "Does the program of the text, which stays", TextEdgesTest::theTextStays);
        Edge.of("Promise 13:", "item by item", TextEdgesTest::theirOrder);
        Edge.of("Promise 13:", "(a loop that ends early, and a test that fails, do not keep the next item from being done)",
                TextEdgesTest::theNextItemIsDone);
        Edge.of("Promise 13:", "This is one change", TextEdgesTest::oneChange);
        Edge.of("Promise 13:", "nothing is recorded", TextEdgesTest::nothingIsRecorded);
        Edge.of("Promise 13:", "no loop is kept", TextEdgesTest::noLoopIsKept);
        Edge.of("Promise 13:", "Returns how many steps are done", TextEdgesTest::theFewestAndTheMostSteps);
        Edge.of("Promise 13:", "-100 minus the fault of the text if it has one (this is an error)",
                TextEdgesTest::aFaultDoesNothing);
        Edge.of("Promise 13:", "NOT_POSSIBLE if a try is open", TextEdgesTest::whileATryIsOpen);
    }

    private static void fault(String text, int at) {
        TryLoops x = new TryLoops();
        Due.is("perform of " + text, Due.perform(x, text), -100 - at);
        Due.is("steps done of " + text, x.total(5), 0);
    }

    private static void done(String text, int steps) {
        Due.is("perform of " + text, Due.perform(new TryLoops(), text), steps);
    }

    private static String repeated(String part, int count) {
        return part.repeat(count);
    }

    private static void sixtyCharacters() {
        TryLoops x = new TryLoops();
        String text = repeated("a1;", 19) + "a11";
        for (int i = 1; i <= 60; i++) {
            Due.is("type", x.type(text.charAt(i - 1)), i);
            Due.is("length", x.total(11), i);
        }
        Due.is("a 61st", x.type('1'), -3);
        Due.is("all of the 60 are read", x.perform(), 20);
        Due.is("cell(0)", x.cell(0), 30);
    }

    private static void emptyAtFirst() {
        TryLoops x = new TryLoops();
        Due.is("length", x.total(11), 0);
        Due.is("clearText()", x.clearText(), 0);
        Due.is("perform()", x.perform(), -100);
        Due.is("type", x.type('w'), 1);
    }

    private static void oneOrMoreItems() {
        fault("", 0);
        done("a1", 1);
        done("a1;a1", 2);
        done("2(a1)", 2);
        done("2(a1);2(a1)", 4);
        done(repeated("a1;", 19) + "a1", 20);
        done(repeated("2(a1);", 9) + "2(a1)", 20);
        fault(";", 0);
        fault("a1;", 3);
    }

    private static void onlyBetweenTwoItems() {
        fault(";a1", 0);
        fault("a1;", 3);
        fault("a1;;a1", 3);
        fault("a1a1", 2);
        fault("a1,a1", 2);
        fault("a1 a1", 2);
        fault("a1;a1;", 6);
        fault("2(a1)2(a1)", 5);
        fault("2(a1)a1", 5);
        fault("a12(a1)", 3);
        fault("2(a1;a1)", 4);
    }

    private static void itemsAreStepsOrLoops() {
        done("a1;2(a1);a1", 4);
        done("2(a1);a1;2(a1)", 5);
        fault("(a1)", 0);
        fault("2", 1);
        fault("2;", 1);
        fault("2a1", 1);
        fault("2(2(a1))", 2);
        fault("2(a1,2(a1))", 5);
        fault("a", 1);
        fault(")", 0);
        fault("+1", 0);
    }

    private static void turnsFrom2To99() {
        fault("0(a1)", 0);
        fault("1(a1)", 1);
        for (int turns = 2; turns <= 99; turns++) {
            done(turns + "(a1)", turns);
        }
        fault("100(a1)", 2);
        fault("101(a1)", 2);
        fault("990(a1)", 2);
        fault("-2(a1)", 0);
        fault("+2(a1)", 0);
    }

    private static void oneOrMoreStepsInALoop() {
        fault("2()", 2);
        done("2(a1)", 2);
        done("2(a1,a1)", 4);
        done("2(a1+1,a1-1,a1)", 6);
    }

    private static void onlyBetweenTwoSteps() {
        fault("2(,a1)", 2);
        fault("2(a1,)", 5);
        fault("2(a1,,a1)", 5);
        fault("2(a1a1)", 4);
        fault("2(a1;a1)", 4);
        fault("2(a1+1,)", 7);
        fault("2(a1+1a1)", 6);
        fault("2(a1),a1", 5);
    }

    private static void moreThan12Steps() {
        int[] counts = {11, 12, 13, 18, 19};
        for (int count : counts) {
            TryLoops x = new TryLoops();
            Due.is("steps in a loop: " + count, Due.perform(x, "2(" + repeated("a1,", count - 1) + "a1)"), 2 * count);
            Due.is("cell(0)", x.cell(0), 2 * count);
        }
        // the nineteenth is the last for which there is room, and has its own stride
        TryLoops x = new TryLoops();
        Due.is("19 steps", Due.perform(x, "2(" + repeated("a0,", 18) + "a5)"), 38);
        Due.is("the nineteenth is done in both turns", x.cell(0), 10);
        TryLoops y = new TryLoops();
        Due.is("14 steps with one stride", Due.perform(y, "3(" + repeated("a0,", 13) + "a5+1)"), 42);
        Due.is("5, 6 and 7", y.cell(0), 18);
        TryLoops z = new TryLoops();
        Due.is("11 with strides", Due.perform(z, "2(" + repeated("a1+1,", 10) + "a1+9)"), 22);
        Due.is("11 and 20 and 10", z.cell(0), 41);
    }

    private static void theBracketsOfALoop() {
        fault("2", 1);
        fault("2)", 1);
        fault("2[a1]", 1);
        fault("2((a1))", 2);
        fault("2(a1", 4);
        fault("2(a1(", 4);
        fault("2(a1]", 4);
        fault("2(a1))", 5);
        fault("2(a1+1", 6);
        fault("2(a1+1;", 6);
    }

    private static void theSixVerbs() {
        for (char sign = 0; sign < 300; sign++) {
            TryLoops x = new TryLoops();
            x.type(sign);
            x.type('0');
            boolean isDigit = sign >= '1' && sign <= '9';
            // a digit and 0 are turns, and end too early
            int due = VERBS.indexOf(sign) >= 0 ? 1 : isDigit ? -102 : -100;
            Due.is("perform of the sign " + (int) sign + " and 0", x.perform(), due);
        }
        TryLoops x = new TryLoops();
        Due.is("each does what it says", Due.perform(x, "w7;g29;c0;a10;s0;t7;t6;g0"), 8);
        Due.is("cell(0)", x.cell(0), 17);
        Due.is("cell(29)", x.cell(29), 7);
        Due.is("tests failed", x.total(6), 1);
        Due.is("hand", x.total(0), 0);
    }

    private static void rangesOfSteps() {
        for (int verb = 0; verb < 6; verb++) {
            for (int number = 0; number <= 99; number++) {
                String step = VERBS.charAt(verb) + Integer.toString(number);
                if (number <= MOST[verb]) {
                    done(step, 1);
                    done("2(" + step + ")", 2);
                } else {
                    // its first digit is allowed, the second one is not
                    fault(step, 2);
                    fault("2(" + step + ")", 4);
                }
            }
            fault(VERBS.charAt(verb) + "-1", 1);
            fault(VERBS.charAt(verb) + "+1", 1);
            fault(VERBS.charAt(verb) + "", 1);
        }
    }

    private static void stridesFrom1To99() {
        for (int stride = 1; stride <= 99; stride++) {
            TryLoops up = new TryLoops();
            Due.is("up by " + stride, Due.perform(up, "2(w0+" + stride + ")"), 2);
            Due.is("cell(0)", up.cell(0), stride);
            TryLoops down = new TryLoops();
            Due.is("down by " + stride, Due.perform(down, "2(w99-" + stride + ")"), 2);
            Due.is("cell(0)", down.cell(0), 99 - stride);
        }
        fault("2(w0+0)", 5);
        fault("2(w0-0)", 5);
        fault("2(w0+100)", 7);
        fault("2(w0-990)", 7);
        fault("2(w0+)", 5);
        fault("2(w0-,a1)", 5);
        fault("2(w0+-1)", 5);
        fault("2(w0++1)", 5);
        fault("2(w0+1+1)", 6);
        // a stride may lead beyond the range of the verb at once: a play that ends early, no fault
        done("2(g0+99)", 1);
        done("2(g0-99)", 1);
    }

    private static void withoutAStride() {
        TryLoops x = new TryLoops();
        Due.is("perform()", Due.perform(x, "9(a5,w9+1,g0)"), 27);
        Due.is("cell(0)", x.cell(0), 17);
        Due.is("the next one has none of the one before", Due.perform(x, "2(w7+9,w5)"), 4);
        Due.is("cell(0)", x.cell(0), 5);
        Due.is("nor of an earlier text", Due.perform(x, "9(w7,w5)"), 18);
        Due.is("cell(0)", x.cell(0), 5);
    }

    private static void noStrideOutsideOfALoop() {
        fault("a1+1", 2);
        fault("a1-1", 2);
        fault("a11+1", 3);
        fault("2(a1);a1+1", 8);
        fault("2(a1)+1", 5);
        fault("2+1(a1)", 1);
    }

    private static void noZerosAhead() {
        for (int verb = 0; verb < 6; verb++) {
            char sign = VERBS.charAt(verb);
            done(sign + "0", 1);
            for (int digit = 0; digit <= 9; digit++) {
                fault(sign + "0" + digit, 2);
                fault("2(" + sign + "0" + digit + ")", 4);
            }
            done(sign + "10", 1);
            done(sign + "20", 1);
        }
        fault("02(a1)", 0);
        fault("00(a1)", 0);
        fault("0", 0);
        fault("2(a1+01)", 5);
        fault("2(a1-09)", 5);
        done("10(a1)", 10);
        done("90(a1)", 90);
        done("2(a1+10)", 2);
    }

    private static void digitsTooMany() {
        for (int digit = 0; digit <= 9; digit++) {
            fault("g3" + digit, 2);
            fault("c3" + digit, 2);
            fault("s9" + digit, 2);
            fault("g29" + digit, 3);
            fault("g10" + digit, 3);
            fault("w99" + digit, 3);
            fault("a10" + digit, 3);
            fault("t10" + digit, 3);
            fault("99" + digit + "(a1)", 2);
            fault("10" + digit + "(a1)", 2);
            fault("2(w0+99" + digit + ")", 7);
            fault("2(w0-10" + digit + ")", 7);
            done("g2" + digit, 1);
            done("w9" + digit, 1);
        }
    }

    private static void theFirstFault() {
        fault("x", 0);
        fault("xx", 0);
        fault("wx", 1);
        fault("w1x", 2);
        fault("w1;x;x", 3);
        fault("w1;wx;x", 4);
        fault("w100;x", 3);
        fault("2(w1;x", 4);
        // the last place of a full text
        fault(repeated("a1;", 19) + "a1x", 59);
        fault(repeated("a1;", 19) + "x11", 57);
        fault("2(" + repeated("a1,", 18) + "a1x]", 58);
        fault("2(" + repeated("a1,", 18) + "a12]", 59);
        // a text that ends too early as well has its fault where the wrong character is
        fault("w1;x", 3);
        fault("2(w1+0", 5);
    }

    private static void textsThatEndTooEarly() {
        // behind each part the text is a program, within a part it ends too early
        String[] parts = {"12(w99-99,g2+1,t0)", ";g2", "9", ";2(a1)", ";s1", "0"};
        int[] steps = {6, 7, 7, 9, 10, 10};
        String text = "";
        for (int i = 0; i < parts.length; i++) {
            for (int length = 0; length < parts[i].length(); length++) {
                if (length > 0 || i == 0) {
                    fault(text + parts[i].substring(0, length), text.length() + length);
                }
            }
            text = text + parts[i];
            done(text, steps[i]);
        }
        // a full text
        fault(repeated("a1;", 20), 60);
        fault("2(" + repeated("a1,", 19) + "a", 60);
        fault("2(" + repeated("a1,", 18) + "a1+9", 60);
    }

    private static void theEmptyText() {
        fault("", 0);
        TryLoops x = new TryLoops();
        Due.perform(x, "a1");
        x.clearText();
        Due.is("a text that was emptied", x.perform(), -100);
        Due.is("steps done", x.total(5), 1);
    }

    private static void behindA1() {
        fault("1", 1);
        fault("1(a1)", 1);
        fault("1;a1", 1);
        fault("1a1", 1);
        fault("1+1", 1);
        fault("1x", 1);
        fault("a1;1", 4);
        fault("a1;1(a1)", 4);
        fault("2(a1);1(", 7);
        for (int digit = 0; digit <= 9; digit++) {
            done("1" + digit + "(a1)", 10 + digit);
            fault("1" + digit, 2);
            fault("1" + digit + ";", 2);
            done("a1;1" + digit + "(a1)", 11 + digit);
        }
        // behind another one there need not be
        done("2(a1)", 2);
        done("9(a1)", 9);
        done("w1", 1);
        done("2(w1+1)", 2);
    }

    private static void anyCharacter() {
        TryLoops x = new TryLoops();
        char[] any = {0, 1, '\n', ' ', 'g', 127, 128, 255, 256, 0xD800, 0xDC00, 0xFFFE, 0xFFFF};
        for (int i = 0; i < any.length; i++) {
            Due.is("type of " + (int) any[i], x.type(any[i]), i + 1);
        }
        Due.is("length", x.total(11), any.length);
        Due.is("the first is not allowed", x.perform(), -100);
        for (char sign : any) {
            TryLoops y = new TryLoops();
            y.type('w');
            y.type('1');
            y.type(sign);
            Due.is("it stands at its place: " + (int) sign, y.perform(), -102);
            y.type(';');
            Due.is("and is not passed over: " + (int) sign, y.perform(), -102);
        }
        // characters of which the lower bits are those of one that is allowed
        TryLoops z = new TryLoops();
        z.type((char) ('w' + 256));
        z.type('1');
        Due.is("a verb and 256", z.perform(), -100);
        z.clearText();
        z.type('w');
        z.type((char) ('1' + 65280));
        Due.is("a digit of another width", z.perform(), -101);
        z.clearText();
        z.type('w');
        z.type((char) 0x661);
        Due.is("a digit of another script", z.perform(), -101);
    }

    private static void the61stCharacter() {
        TryLoops x = new TryLoops();
        for (int i = 1; i <= 59; i++) {
            x.type('w');
        }
        Due.is("the 60th", x.type('w'), 60);
        Due.is("the 61st", x.type('w'), -3);
        Due.is("the 62nd", x.type((char) 0), -3);
        Due.is("length", x.total(11), 60);
        Due.is("clearText()", x.clearText(), 60);
        Due.is("there is room again", x.type('w'), 1);
    }

    private static void clearedTexts() {
        TryLoops x = new TryLoops();
        Due.text(x, "12(a1,a1)");
        x.clearText();
        Due.is("length", x.total(11), 0);
        Due.text(x, "a7");
        Due.is("nothing of the longer one is left", x.perform(), 1);
        Due.is("cell(0)", x.cell(0), 7);
        x.clearText();
        x.type('a');
        Due.is("the end is the end", x.perform(), -101);
    }

    private static void lengthsThatItHad() {
        TryLoops x = new TryLoops();
        Due.is("0", x.clearText(), 0);
        int[] lengths = {1, 59, 60, 2};
        for (int length : lengths) {
            for (int i = 0; i < length; i++) {
                x.type(';');
            }
            Due.is("length", x.clearText(), length);
            Due.is("once more", x.clearText(), 0);
        }
    }

    private static void theTextStays() {
        TryLoops x = new TryLoops();
        Due.is("perform()", Due.perform(x, "a1;2(a1)"), 3);
        Due.is("length", x.total(11), 8);
        Due.is("perform() again", x.perform(), 3);
        Due.is("cell(0)", x.cell(0), 6);
        x.type(';');
        Due.is("one more character", x.perform(), -109);
        x.type('a');
        x.type('4');
        Due.is("and two more", x.perform(), 4);
        Due.is("cell(0)", x.cell(0), 13);
    }

    private static void theNextItemIsDone() {
        TryLoops x = new TryLoops();
        Due.is("behind a test that fails", Due.perform(x, "w5;t4;a1"), 3);
        Due.is("cell(0)", x.cell(0), 6);
        Due.is("behind a loop that a number ends", Due.perform(x, "9(w98+1);w1"), 3);
        Due.is("cell(0)", x.cell(0), 1);
        Due.is("behind a loop that a test ends", Due.perform(x, "9(a1,t4);a10"), 9);
        Due.is("cell(0)", x.cell(0), 15);
        Due.is("a loop behind a loop", Due.perform(x, "9(t0);2(a1);9(w99+1);2(a1)"), 1 + 2 + 1 + 2);
        Due.is("cell(0)", x.cell(0), 1);
    }

    private static void theirOrder() {
        TryLoops x = new TryLoops();
        Due.is("perform()", Due.perform(x, "w3;g1;c0;2(a1);g0;s1;g2;w9;g29;c2"), 11);
        Due.is("cell(0), exchanged after the play", x.cell(0), 5);
        Due.is("cell(1)", x.cell(1), 3);
        Due.is("cell(29), copied after the write", x.cell(29), 9);
        Due.is("hand, of the last go", x.total(0), 29);
    }

    private static void oneChange() {
        TryLoops x = new TryLoops();
        Due.is("perform()", Due.perform(x, "g1;w5;2(a1);99(a1);g2;w9;t0"), 106);
        Due.is("states", x.total(10), 1);
        Due.is("undo()", x.undo(), 0);
        Due.is("sum", x.total(1), 0);
        Due.is("hand", x.total(0), 0);
        Due.is("plays", x.total(7), 0);
    }

    private static void nothingIsRecorded() {
        TryLoops x = new TryLoops();
        Due.is("perform()", Due.perform(x, "a1;2(a1)"), 3);
        Due.is("tries", x.total(2), 0);
        Due.is("nothing is open", x.total(3), -5);
        x.record();
        Due.is("the open one is empty", x.total(3), 0);
        Due.is("end()", x.end(), 100);
        for (int i = 0; i < 6; i++) {
            Due.aTry(x, 1, i);
        }
        Due.is("with 6 tries, too", x.perform(), 3);
        Due.is("length", x.length(5, 0), 1);
    }

    private static void noLoopIsKept() {
        TryLoops x = new TryLoops();
        Due.is("perform()", Due.perform(x, "2(a1);2(a1)"), 4);
        Due.is("loops", x.total(4), 0);
        Due.is("loop 0", x.length(0, 1), -1);
        Due.aTry(x, 1, 7, 1, 9);
        for (int i = 0; i < 6; i++) {
            x.fold(0);
        }
        Due.is("with 6 loops, too", Due.perform(x, "3(a5,a6,a7,a8)"), 12);
        Due.is("loops", x.total(4), 6);
        for (int loop = 0; loop < 6; loop++) {
            Due.is("body", x.length(loop, 1), 1);
            Due.is("number", x.ofLoop(loop, 0, 1), 7);
            Due.is("turns", x.length(loop, 2), 2);
        }
    }

    private static void theFewestAndTheMostSteps() {
        done("t0", 1);
        done("2(g29+1)", 1);
        done("99(" + repeated("a1,", 17) + "a1)", 99 * 18);
        done("9(" + repeated("a1,", 18) + "a1)", 9 * 19);
        done(repeated("99(a1);", 7) + "99(a1)", 8 * 99);
        done("w1;2(t0);t0", 3);
    }

    private static void aFaultDoesNothing() {
        TryLoops x = new TryLoops();
        Due.steps(x, 1, 5);
        String[] texts = {"w9;x", "w9;9(a1", "9(a1);", "", "w9;g30"};
        for (String text : texts) {
            Due.text(x, text);
            String before = Picture.of(x);
            Due.holds("a fault of " + text, x.perform() <= -100);
            Due.holds("nothing of it is done: " + text, Picture.of(x).equals(before));
        }
    }

    private static void whileATryIsOpen() {
        TryLoops x = new TryLoops();
        x.record();
        Due.is("an empty one is open", Due.perform(x, "a1"), -4);
        Due.steps(x, 1, 5);
        Due.is("one of a step is open", x.perform(), -4);
        Due.is("cell(0)", x.cell(0), 5);
        Due.is("steps of the open one", x.total(3), 1);
        Due.is("the fault is told first", Due.perform(x, "a1;"), -103);
        Due.is("and the fault 0, too", Due.perform(x, ""), -100);
        x.end();
        Due.is("none is open", Due.perform(x, "a1"), 1);
    }
}
