/** Promises 11 (type), 12 (clearText) and 13 (perform). */
public final class TextsTest {
    public static void main(String[] args) {
        typeAndClear();
        stepsOfAText();
        loopsOfAText();
        itemsGoOn();
        theFullText();
        faultsOfItems();
        faultsOfNumbers();
        faultsOfLoops();
        everyCharacter();
        errors();
        oneChange();
        Due.end();
    }

    private static void typeAndClear() {
        TryLoops x = new TryLoops();
        Due.is("clearText()", x.clearText(), 0);
        char[] any = {'g', 0, ' ', '\n', (char) 255, (char) 256, (char) 65535};
        for (int i = 0; i < any.length; i++) {
            Due.is("type", x.type(any[i]), i + 1);
        }
        Due.is("length", x.total(11), any.length);
        Due.is("clearText()", x.clearText(), any.length);
        Due.is("clearText() again", x.clearText(), 0);
        Due.is("length", x.total(11), 0);
        for (int i = 0; i < 60; i++) {
            Due.is("type", x.type('g'), i + 1);
        }
        Due.is("the 61st", x.type('g'), -3);
        Due.is("the 61st again", x.type(';'), -3);
        Due.is("length", x.total(11), 60);
        Due.is("states", x.total(10), 0);
        Due.is("fault", x.perform(), -101);
        Due.is("clearText()", x.clearText(), 60);
        Due.is("type", x.type('t'), 1);
    }

    private static void stepsOfAText() {
        TryLoops x = new TryLoops();
        Due.is("write", Due.perform(x, "w99"), 1);
        Due.is("cell(0)", x.cell(0), 99);
        Due.is("add", Due.perform(x, "a2"), 1);
        Due.is("cell(0)", x.cell(0), 1);
        Due.is("the text stays", x.total(11), 2);
        Due.is("once more", x.perform(), 1);
        Due.is("cell(0)", x.cell(0), 3);
        Due.is("all", Due.perform(x, "w7;g29;c0;a10;s0;t7;t6;g0"), 8);
        Due.is("cell(0)", x.cell(0), 17);
        Due.is("cell(29)", x.cell(29), 7);
        Due.is("hand", x.total(0), 0);
        Due.is("tests failed", x.total(6), 1);
        Due.is("steps done", x.total(5), 11);
        Due.is("no plays", x.total(7), 0);
        Due.is("reason", x.total(8), -5);
        Due.is("zeros", Due.perform(x, "g0;w0;a0;c0;s0;t0"), 6);
        Due.is("hand", x.total(0), 0);
    }

    private static void loopsOfAText() {
        TryLoops x = new TryLoops();
        Due.is("2 turns", Due.perform(x, "2(a5)"), 2);
        Due.is("cell(0)", x.cell(0), 10);
        Due.is("99 turns", Due.perform(x, "99(a1)"), 99);
        Due.is("cell(0)", x.cell(0), 9);
        Due.is("10 turns", Due.perform(x, "10(g0+1,w9-1)"), 20);
        for (int cell = 0; cell < 10; cell++) {
            Due.is("cell", x.cell(cell), 9 - cell);
        }
        Due.is("plays", x.total(7), 3);
        Due.is("reason", x.total(8), 0);
        Due.is("by the range", Due.perform(x, "3(w1+99)"), 1);
        Due.is("reason", x.total(8), 1);
        Due.is("up to the range", Due.perform(x, "3(w0+99)"), 2);
        Due.is("cell", x.cell(9), 99);
        Due.is("down to the range", Due.perform(x, "3(w99-99)"), 2);
        Due.is("cell", x.cell(9), 0);
        Due.is("by a test", Due.perform(x, "w0;50(a1,t9)"), 21);
        Due.is("reason", x.total(8), 2);
        Due.is("tests failed", x.total(6), 1);
        Due.is("cell", x.cell(9), 10);
        Due.is("no loop is kept", x.total(4), 0);
        Due.is("no try is kept", x.total(2), 0);
    }

    private static void itemsGoOn() {
        TryLoops x = new TryLoops();
        // the first loop ends by a number, the second by a test (of the 99 in cell 0)
        Due.is("all items", Due.perform(x, "t0;w5;t4;2(w99+1,g5);3(t0,g0);a1;2(a1)"), 3 + 2 + 3 + 1 + 2);
        Due.is("cell(0)", x.cell(0), 2);
        Due.is("tests failed", x.total(6), 2);
        Due.is("plays", x.total(7), 3);
        Due.is("reason", x.total(8), 0);
    }

    private static void theFullText() {
        TryLoops x = new TryLoops();
        Due.is("20 items", Due.perform(x, "a1;a1;a1;a1;a1;a1;a1;a1;a1;a1;a1;a1;a1;a1;a1;a1;a1;a1;a1;a1"), 20);
        Due.is("cell(0)", x.cell(0), 20);
        Due.is("length", x.total(11), 59);
        Due.is("type", x.type('1'), 60);
        Due.is("60 characters", x.perform(), 20);
        Due.is("cell(0)", x.cell(0), 50);
        Due.is("19 steps in a loop",
                Due.perform(x, "9(a1,a1,a1,a1,a1,a1,a1,a1,a1,a1,a1,a1,a1,a1,a1,a1,a1,a1,a1)"), 171);
        Due.is("cell(0)", x.cell(0), 21);
        Due.is("one is a place too long: the end is missing",
                Due.perform(x, "10(a1,a1,a1,a1,a1,a1,a1,a1,a1,a1,a1,a1,a1,a1,a1,a1,a1,a1,a10"), -160);
        Due.is("13 steps in a loop", Due.perform(x, "2(a1,a1,a1,a1,a1,a1,a1,a1,a1,a1,a1,a1,a1)"), 26);
        Due.is("loops alone", Due.perform(x, "2(a1);2(a1);2(a1);2(a1);2(a1);2(a1);2(a1);2(a1);2(a1)"), 18);
        Due.is("plays", x.total(7), 11);
        Due.is("a short text after a long one", Due.perform(x, "a1"), 1);
    }

    private static void fault(String text, int at) {
        TryLoops x = new TryLoops();
        Due.is("perform of " + text, Due.perform(x, text), -100 - at);
        Due.is("steps done", x.total(5), 0);
        Due.is("states", x.total(10), 0);
        Due.is("the text stays", x.total(11), text.length());
    }

    private static void faultsOfItems() {
        fault("", 0);
        fault("x", 0);
        fault(" g1", 0);
        fault("G1", 0);
        fault(";", 0);
        fault("(", 0);
        fault("+1", 0);
        fault("g1;", 3);
        fault("g1;;g1", 3);
        fault("g1 ", 2);
        fault("g1g2", 2);
        fault("g1,g2", 2);
        fault("g1+1", 2);
        fault("g1-1", 2);
        fault("g1)", 2);
        fault("g1;2(g1);", 9);
        fault("g1;2(g1)g", 8);
        fault("w1;x", 3);
        fault("g", 1);
        fault("g;", 1);
        fault("gg", 1);
        fault("g-1", 1);
        fault("g+1", 1);
    }

    private static void faultsOfNumbers() {
        fault("g30", 2);
        fault("g31", 2);
        fault("c39", 2);
        fault("s45", 2);
        fault("c30", 2);
        fault("s99", 2);
        fault("g290", 3);
        fault("g00", 2);
        fault("g01", 2);
        fault("w00", 2);
        fault("w01", 2);
        fault("w100", 3);
        fault("a990", 3);
        fault("t999", 3);
        fault("t0;a00", 5);
        fault("2(g3+0)", 5);
        fault("2(g3+01)", 5);
        fault("2(g3-0)", 5);
        fault("2(g3+100)", 7);
        fault("2(g3+)", 5);
        fault("2(g3+-1)", 5);
        fault("2(g30)", 4);
        fault("2(w00)", 4);
        fault("0(g1)", 0);
        fault("1(g1)", 1);
        fault("1", 1);
        fault("1;", 1);
        fault("01(g1)", 0);
        fault("100(g1)", 2);
        fault("990(g1)", 2);
        fault("200(g1)", 2);
        fault("2", 1);
        fault("10", 2);
        fault("2;", 1);
        fault("g1;1(g1)", 4);
        fault("g1;0", 3);
    }

    private static void faultsOfLoops() {
        fault("2(", 2);
        fault("2()", 2);
        fault("2(g1", 4);
        fault("2(g1;", 4);
        fault("2(g1,", 5);
        fault("2(g1,)", 5);
        fault("2(g1,,g1)", 5);
        fault("2(,g1)", 2);
        fault("2(2(g1))", 2);
        fault("2(g1)2(g1)", 5);
        fault("2(g1)+1", 5);
        fault("2(g1))", 5);
        fault("2(g1+1+1)", 6);
        fault("2(g1+1-1)", 6);
        fault("2(g1+1", 6);
        fault("2(g1+", 5);
        fault("2(g", 3);
        fault("2g1", 1);
        fault("2((g1)", 2);
        fault("12(w99-99,a", 11);
    }

    private static void everyCharacter() {
        TryLoops x = new TryLoops();
        for (int sign = 0; sign <= 300; sign++) {
            x = new TryLoops();
            x.type('w');
            x.type('5');
            x.type((char) sign);
            boolean digit = sign >= '0' && sign <= '9';
            int due = digit ? 1 : sign == ';' ? -103 : -102;
            Due.is("perform of w5 and " + sign, x.perform(), due);
            x.clearText();
            x.type((char) sign);
            int dueAlone = "gwacst".indexOf(sign) >= 0 || (sign >= '1' && sign <= '9') ? -101 : -100;
            Due.is("perform of " + sign, x.perform(), dueAlone);
        }
        x.clearText();
        x.type((char) ('w' + 256));
        x.type('1');
        Due.is("a character 256 above", x.perform(), -100);
        x.clearText();
        x.type('w');
        x.type((char) 0x661);
        Due.is("another script's digit", x.perform(), -101);
        x.clearText();
        x.type('w');
        x.type('1');
        x.type((char) 0);
        Due.is("the character 0 at the end", x.perform(), -102);
    }

    private static void errors() {
        TryLoops x = new TryLoops();
        x.record();
        Due.is("fault ahead of not possible", Due.perform(x, "w"), -101);
        Due.is("a try is open", Due.perform(x, "w5"), -4);
        Due.is("cell(0)", x.cell(0), 0);
        Due.is("open steps", x.total(3), 0);
        Due.is("states", x.total(10), 1);
        Due.is("end()", x.end(), 100);
        Due.is("now", x.perform(), 1);
        Due.is("cell(0)", x.cell(0), 5);
    }

    private static void oneChange() {
        TryLoops x = new TryLoops();
        Due.is("perform", Due.perform(x, "g3;w5;t4;4(a1,g3+1)"), 3 + 8);
        Due.is("states", x.total(10), 1);
        Due.is("plays", x.total(7), 1);
        Due.is("undo()", x.undo(), 0);
        Due.is("the text is not undone", x.total(11), 19);
        Due.is("cell(3)", x.cell(3), 0);
        Due.is("hand", x.total(0), 0);
        Due.is("steps done", x.total(5), 0);
        Due.is("tests failed", x.total(6), 0);
        Due.is("plays", x.total(7), 0);
        Due.is("reason", x.total(8), -5);
    }
}
