/** What the project's tests share: comparing answers, and short ways to set up an object. */
public final class Due {
    private static int wrong = 0;
    private static int asked = 0;

    private Due() {
    }

    /** Prints the call if its answer is not the one that is due. */
    public static void is(String call, long got, long want) {
        asked++;
        if (got != want) {
            wrong++;
            StackTraceElement[] trace = new Throwable().getStackTrace();
            String place = "";
            for (StackTraceElement element : trace) {
                if (!element.getClassName().equals("Due")) {
                    place = element.getFileName() + ":" + element.getLineNumber();
                    break;
                }
            }
            System.out.println(place + ": " + call + " answered " + got + ", due is " + want);
        }
    }

    public static void holds(String what, boolean true_) {
        is(what, true_ ? 1 : 0, 1);
    }

    public static int wrongSoFar() {
        return wrong;
    }

    public static int askedSoFar() {
        return asked;
    }

    /** Ends the test, with exit code 1 if an answer was not the one that is due. */
    public static void end() {
        System.out.println(asked + " answers asked, " + wrong + " not as due");
        if (wrong != 0 || asked == 0) {
            System.exit(1);
        }
    }

    /** Does steps: a list of verb, number, verb, number and so on. */
    public static void steps(TryLoops x, int... verbsAndNumbers) {
        for (int i = 0; i + 1 < verbsAndNumbers.length; i += 2) {
            int answer = x.step(verbsAndNumbers[i], verbsAndNumbers[i + 1]);
            holds("step(" + verbsAndNumbers[i] + ", " + verbsAndNumbers[i + 1] + ") is done", answer >= 0);
        }
    }

    /** Records a try of these steps; answers its number. */
    public static int aTry(TryLoops x, int... verbsAndNumbers) {
        holds("record() begins", x.record() >= 0);
        steps(x, verbsAndNumbers);
        return x.end();
    }

    /** The list of verbs and numbers of so many equal steps. */
    public static int[] times(int count, int verb, int number) {
        int[] steps = new int[2 * count];
        for (int i = 0; i < count; i++) {
            steps[2 * i] = verb;
            steps[2 * i + 1] = number;
        }
        return steps;
    }

    /** A new text in place of the old one. */
    public static void text(TryLoops x, String text) {
        x.clearText();
        for (int i = 0; i < text.length(); i++) {
            is("type(" + (int) text.charAt(i) + ")", x.type(text.charAt(i)), i + 1);
        }
    }

    /** Types the text and performs it. */
    public static int perform(TryLoops x, String text) {
        text(x, text);
        return x.perform();
    }

    /** A new object with one loop, number 0, of the body b repeated with strides, by two tries. */
    public static TryLoops looped(int[] verbs, int[] numbers, int[] strides, int turns) {
        TryLoops x = new TryLoops();
        makeLoop(x, verbs, numbers, strides, turns);
        return x;
    }

    /** Adds a loop to an object without an open try; the tries it needs are dropped again. */
    public static int makeLoop(TryLoops x, int[] verbs, int[] numbers, int[] strides, int turns) {
        int one = record(x, verbs, numbers, strides, 0);
        int other = record(x, verbs, numbers, strides, 1);
        int loop = x.generalise(one, other);
        holds("the loop is made", loop >= 0);
        x.dropTry(other);
        x.dropTry(one);
        x.setTurns(loop, turns);
        return loop;
    }

    private static int record(TryLoops x, int[] verbs, int[] numbers, int[] strides, int turn) {
        x.record();
        for (int i = 0; i < verbs.length; i++) {
            holds("step is done", x.step(verbs[i], numbers[i] + turn * strides[i]) >= 0);
        }
        return x.end();
    }
}
