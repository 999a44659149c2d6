import java.lang.reflect.Constructor;
import java.lang.reflect.Field;
import java.lang.reflect.Method;
import java.lang.reflect.Modifier;
import java.nio.file.Files;
import java.nio.file.Path;
import java.util.ArrayList;
import java.util.HashMap;
import java.util.List;
import java.util.Map;
import java.util.Random;
import java.util.TreeMap;
import java.util.TreeSet;
import java.util.regex.Matcher;
import java.util.regex.Pattern;

/**
 * What can be read off the document itself, from its first line on: the face, the constants, the
 * ranges of the verbs, which methods are changes, and which errors each of them may answer.
 */
public final class DocumentTest {
    private static final int RUNS = 300;
    private static final int CALLS = 512;
    private static final Pattern METHOD = Pattern.compile("int (\\w+)\\(([^)]*)\\)");
    private static final Pattern CONSTANT = Pattern.compile("\\b(UNKNOWN|OUT_OF_RANGE|FULL|NOT_POSSIBLE|NONE)\\b");

    private static String document;
    /** Each promise after the first, by the name of its method. */
    private static final Map<String, String> PROMISES = new TreeMap<>();
    private static final Map<String, Method> METHODS = new TreeMap<>();

    public static void main(String[] args) throws Exception {
        document = Files.readString(Path.of("../shared/DOC.md"));
        for (Method method : TryLoops.class.getDeclaredMethods()) {
            if (Modifier.isPublic(method.getModifiers())) {
                METHODS.put(method.getName(), method);
            }
        }
        readPromises();
        theFace();
        theConstants();
        theGroups();
        theVerbs();
        theChanges();
        theAnswers();
        Due.end();
    }

    private static void readPromises() {
        String[] parts = document.split("\n## Promise ");
        Due.is("promises", parts.length - 1, 27);
        for (int i = 2; i < parts.length; i++) {
            String promise = parts[i].split("\n## ")[0];
            Matcher head = METHOD.matcher(promise);
            Due.holds("promise " + i + " tells of a method", head.find());
            Due.holds("promise " + i + " is headed so", promise.startsWith(i + ": " + head.group(1) + "\n"));
            Due.is("arguments that promise " + i + " tells of", count(promise, "\n- `"), arguments(head.group(2)));
            PROMISES.put(head.group(1), promise);
        }
        Due.holds("each method has a promise: " + PROMISES.keySet(), PROMISES.keySet().equals(METHODS.keySet()));
    }

    private static int arguments(String list) {
        return list.isEmpty() ? 0 : list.split(",").length;
    }

    private static int count(String text, String part) {
        return text.split(Pattern.quote(part), -1).length - 1;
    }

    // ---- the public face

    private static void theFace() {
        String face = document.substring(document.indexOf("```java"), document.indexOf("```\n", document.indexOf("```java") + 3));
        TreeSet<String> due = new TreeSet<>();
        for (String line : face.split("\n")) {
            String told = line.trim();
            if (told.startsWith("public ") && told.endsWith(";")) {
                due.add(told.replaceAll(" \\w+([,)])", "$1").replaceAll(" = .*", "").replace(";", ""));
            }
        }
        Due.is("what the document's face has", due.size(), 5 + 1 + 26);
        TreeSet<String> got = new TreeSet<>();
        for (Field field : TryLoops.class.getDeclaredFields()) {
            if (!Modifier.isPrivate(field.getModifiers())) {
                got.add(Modifier.toString(field.getModifiers()) + " int " + field.getName());
            }
        }
        for (Constructor<?> constructor : TryLoops.class.getDeclaredConstructors()) {
            got.add(constructor.toString());
        }
        for (Method method : TryLoops.class.getDeclaredMethods()) {
            if (!Modifier.isPrivate(method.getModifiers())) {
                got.add(method.toString().replace("TryLoops.", "").replace(",", ", "));
            }
        }
        Due.holds("the face is that of the document: " + got + ", due is " + due, got.equals(due));
    }

    private static void theConstants() throws Exception {
        Matcher constant = Pattern.compile("(?:public static final int |`)([A-Z_]+) = (-\\d+)").matcher(document);
        int told = 0;
        while (constant.find()) {
            told++;
            Due.is(constant.group(1), TryLoops.class.getField(constant.group(1)).getInt(null), Integer.parseInt(constant.group(2)));
        }
        Due.is("how often the document tells a constant", told, 10);
    }

    /** The class has its methods under the headings that the document gives them. */
    private static void theGroups() throws Exception {
        String[] parts = Files.readString(Path.of("src/main/java/TryLoops.java")).split("\n    // ---- ");
        Matcher group = Pattern.compile("\nAhead of the calls (.*) the interface says: ---- (.*)\\.\n").matcher(document);
        int part = 1;
        int calls = 0;
        while (group.find()) {
            Due.holds("there is the heading " + group.group(2), parts[part].startsWith(group.group(2) + "\n"));
            for (String call : group.group(1).split(", ")) {
                String name = call.replace("`", "");
                Due.holds(name + " stands under " + group.group(2), parts[part].contains("public int " + name + "("));
                calls++;
            }
            part++;
        }
        Due.is("groups", part - 1, 6);
        Due.is("calls in groups", calls, METHODS.size());
    }

    // ---- the verbs: their numbers, their ranges, their letters

    private static void theVerbs() {
        Matcher verb = Pattern.compile("\n- (\\d) (\\w+) \\((\\d+) to (\\d+)\\): ").matcher(document);
        int verbs = 0;
        while (verb.find()) {
            int number = Integer.parseInt(verb.group(1));
            int least = Integer.parseInt(verb.group(3));
            int most = Integer.parseInt(verb.group(4));
            Due.is("the verbs stand in their order", number, verbs++);
            theRange(number, least, most);
            Matcher letter = Pattern.compile("\"(\\w)\" " + verb.group(2)).matcher(document);
            Due.holds("there is a letter for " + verb.group(2), letter.find());
            theLetter(number, letter.group(1), most);
        }
        Due.is("verbs", verbs, 6);
        Due.is("step(6, 0)", new TryLoops().step(verbs, 0), TryLoops.UNKNOWN);
        Due.is("step(-1, 0)", new TryLoops().step(-1, 0), TryLoops.UNKNOWN);
    }

    private static void theRange(int verb, int least, int most) {
        for (int number = least - 3; number <= most + 3; number++) {
            boolean inRange = number >= least && number <= most;
            Due.is("step(" + verb + ", " + number + ") is out of its range",
                    new TryLoops().step(verb, number) == TryLoops.OUT_OF_RANGE ? 1 : 0, inRange ? 0 : 1);
        }
    }

    /** The letter does what step() does with the verb: both leave the same picture. */
    private static void theLetter(int verb, String letter, int most) {
        for (int number = 0; number <= most; number++) {
            TryLoops typed = new TryLoops();
            TryLoops done = new TryLoops();
            for (TryLoops x : List.of(typed, done)) {
                Due.steps(x, 1, 7, 0, 20, 1, 50);
            }
            Due.is("perform() of " + letter + number, Due.perform(typed, letter + number), 1);
            done.step(verb, number);
            typed.clearText();
            Due.holds(letter + number + " is step(" + verb + ", " + number + ")", Picture.of(typed).equals(Picture.of(done)));
        }
    }

    // ---- which methods are changes

    private static void theChanges() throws Exception {
        for (String name : METHODS.keySet()) {
            boolean change = Pattern.compile("This is (a|one) change").matcher(PROMISES.get(name)).find();
            TryLoops x = ready(name.equals("end"));
            String before = stateOf(x);
            int answer = answer(x, name, thatAreAnswered(name));
            Due.holds(name + " answers neither an error nor NONE: " + answer, answer >= 0);
            if (name.equals("undo")) {
                Due.is("states behind undo()", x.total(10), 0);
            } else if (change) {
                Due.is("states behind " + name + ", which is a change", x.total(10), 2);
                Due.is("undo() of " + name, x.undo(), 1);
                Due.holds(name + " is undone", stateOf(x).equals(before));
            } else {
                Due.is("states behind " + name + ", which is no change", x.total(10), 1);
                Due.holds(name + " leaves the state", stateOf(x).equals(before));
            }
        }
    }

    /** Two tries, the loop of them, a text, and a history of one state, which is an earlier one. */
    private static TryLoops ready(boolean open) {
        TryLoops x = new TryLoops();
        Due.aTry(x, 2, 1, 2, 1);
        Due.aTry(x, 2, 1, 2, 3);
        x.generalise(0, 1);
        Due.text(x, "3(a1+1)");
        if (open) {
            x.record();
            x.step(2, 5);
        }
        x.keep();
        for (int left = 3; left >= 0; left--) {
            Due.is("undo()", x.undo(), left);
        }
        x.restore();
        return x;
    }

    private static Object[] thatAreAnswered(String name) {
        switch (name) {
            case "step":
                return new Object[] {2, 5};
            case "type":
                return new Object[] {'g'};
            case "setTurns":
                return new Object[] {0, 9};
            case "generalise":
                return new Object[] {0, 1};
            case "ifPlayed":
                return new Object[] {0, 2, 0};
            case "fewestTurns":
                return new Object[] {0, 0, 8};
            default:
                Object[] arguments = new Object[METHODS.get(name).getParameterCount()];
                java.util.Arrays.fill(arguments, 0);
                return arguments;
        }
    }

    /** The text and the history are not of the state: the last two totals tell of them. */
    private static String stateOf(TryLoops x) {
        return Picture.of(x).replaceAll("(totals(?: -?\\d+){10}) \\d+ \\d+", "$1");
    }

    private static int answer(TryLoops x, String name, Object... arguments) throws Exception {
        return (Integer) METHODS.get(name).invoke(x, arguments);
    }

    // ---- which errors a method answers: just those that its promise names

    private static void theAnswers() throws Exception {
        Map<String, TreeSet<Integer>> answers = new HashMap<>();
        for (String name : METHODS.keySet()) {
            answers.put(name, new TreeSet<>());
        }
        for (int seed = 0; seed < RUNS; seed++) {
            collect(new Random(seed), answers);
        }
        for (String name : METHODS.keySet()) {
            theErrors(name, answers.get(name));
            theBounds(name, answers.get(name));
        }
    }

    private static void theErrors(String name, TreeSet<Integer> answers) throws Exception {
        TreeSet<Integer> due = new TreeSet<>();
        Matcher named = CONSTANT.matcher(PROMISES.get(name));
        while (named.find()) {
            due.add(TryLoops.class.getField(named.group(1)).getInt(null));
        }
        TreeSet<Integer> got = new TreeSet<>(answers.headSet(0));
        if (name.equals("perform")) {
            TreeSet<Integer> faults = new TreeSet<>(got.headSet(-10));
            Due.holds("faults are from -160 to -100: " + faults, faults.first() >= -160 && faults.last() == -100);
            got.removeAll(faults);
        }
        Due.holds(name + " answers the errors " + got + ", its promise names " + due, got.equals(due));
    }

    private static void theBounds(String name, TreeSet<Integer> answers) {
        Matcher bounds = Pattern.compile("\nReturns [a-z ]+, (\\d+) (?:to (\\d+)|or more);").matcher(PROMISES.get(name));
        int least = 0;
        int most = Integer.MAX_VALUE;
        if (bounds.find()) {
            least = Integer.parseInt(bounds.group(1));
            most = bounds.group(2) == null ? most : Integer.parseInt(bounds.group(2));
        }
        TreeSet<Integer> got = new TreeSet<>(answers.tailSet(0));
        Due.holds(name + " answers from " + least + " to " + most + ": " + got, got.first() >= least && got.last() <= most);
    }

    /** A run that does without some methods, so that there is often much, and often little. */
    private static void collect(Random random, Map<String, TreeSet<Integer>> answers) throws Exception {
        List<String> names = new ArrayList<>();
        while (names.isEmpty()) {
            for (String name : METHODS.keySet()) {
                for (int i = random.nextInt(3); i > 0; i--) {
                    names.add(name);
                }
            }
        }
        TryLoops x = new TryLoops();
        List<Object[]> planned = new ArrayList<>();
        for (int call = 0; call < CALLS; call++) {
            if (planned.isEmpty() && random.nextInt(20) == 0) {
                plan(random, planned);
            }
            String name = planned.isEmpty() ? names.get(random.nextInt(names.size())) : (String) planned.get(0)[0];
            Object[] arguments = planned.isEmpty() ? any(random, name) : (Object[]) planned.remove(0)[1];
            answers.get(name).add(answer(x, name, arguments));
        }
    }

    /** A text that can be performed (or is typed until it is full), or a try that can be folded. */
    private static void plan(Random random, List<Object[]> planned) {
        if (random.nextBoolean()) {
            String text = "4(a1+2);t0" + (random.nextInt(8) == 0 ? ";4(a1+2);t0".repeat(5) : "");
            planned.add(new Object[] {"clearText", new Object[0]});
            for (char sign : text.toCharArray()) {
                planned.add(new Object[] {"type", new Object[] {sign}});
            }
            planned.add(new Object[] {"perform", new Object[0]});
            return;
        }
        planned.add(new Object[] {"record", new Object[0]});
        int first = random.nextInt(3);
        int stride = random.nextInt(3);
        for (int turn = 0; turn < 2 + first; turn++) {
            planned.add(new Object[] {"step", new Object[] {2, first + turn * stride}});
        }
        planned.add(new Object[] {"end", new Object[0]});
        planned.add(new Object[] {"fold", new Object[] {random.nextInt(3)}});
    }

    private static Object[] any(Random random, String name) {
        Method method = METHODS.get(name);
        Object[] arguments = new Object[method.getParameterCount()];
        for (int i = 0; i < arguments.length; i++) {
            if (method.getParameterTypes()[i] == char.class) {
                arguments[i] = "gwacst0123456789".charAt(random.nextInt(16));
            } else {
                arguments[i] = anyNumber(random);
            }
        }
        return arguments;
    }

    private static int anyNumber(Random random) {
        switch (random.nextInt(10)) {
            case 0:
                return random.nextInt();
            case 1:
                return random.nextInt(220) - 110;
            case 2:
                return random.nextInt(14) - 1;
            default:
                return random.nextInt(3);
        }
    }
}
