import java.util.ArrayList;
import java.util.HashSet;
import java.util.List;
import java.util.Random;
import java.util.regex.Matcher;
import java.util.regex.Pattern;

/**
 * Long runs of calls, the same ones each time, on the class and on a model of the document that is
 * written another way: states are copied whole, texts are read by patterns.
 */
public final class ModelTest {
    private static final int RUNS = 1500;
    private static final int CALLS = 512;

    public static void main(String[] args) {
        int wrongRuns = 0;
        int[] answered = new int[METHODS];
        int[] plainly = new int[METHODS];
        for (int seed = 0; seed < RUNS && wrongRuns < 5; seed++) {
            if (!run(seed, answered, plainly)) {
                wrongRuns++;
            }
        }
        for (int method = 0; method < METHODS; method++) {
            Due.holds(NAMES[method] + " is asked often, and not only in vain: " + plainly[method],
                    answered[method] > 1000 && plainly[method] > 500);
        }
        Due.is("runs that went wrong", wrongRuns, 0);
        Due.end();
    }

    private static final int METHODS = 26;

    private static boolean run(int seed, int[] answered, int[] plainly) {
        Random random = new Random(seed);
        TryLoops x = new TryLoops();
        Model model = new Model();
        List<String> calls = new ArrayList<>();
        List<int[]> script = new ArrayList<>();
        for (int i = 0; i < CALLS; i++) {
            int[] call;
            if (!script.isEmpty()) {
                call = script.remove(0);
            } else {
                if (random.nextInt(5) == 0) {
                    plan(random, script, model);
                }
                call = script.isEmpty() ? anyCall(random) : script.remove(0);
            }
            int got = ofClass(x, call);
            int want = model.answer(call);
            calls.add(told(call) + " = " + got);
            answered[call[0]]++;
            if (want >= 0) {
                plainly[call[0]]++;
            }
            if (got != want) {
                System.out.println("seed " + seed + ", call " + i + ": due is " + want);
                for (int k = Math.max(0, calls.size() - 40); k < calls.size(); k++) {
                    System.out.println("    " + calls.get(k));
                }
                return false;
            }
        }
        return true;
    }

    private static String told(int[] call) {
        return NAMES[call[0]] + java.util.Arrays.toString(java.util.Arrays.copyOfRange(call, 1, call.length));
    }

    private static final String[] NAMES = {
        "step", "record", "end", "dropTry", "generalise", "fold", "setTurns", "dropLoop", "play",
        "type", "clearText", "perform", "undo", "keep", "restore", "cell", "ofTry", "ofLoop",
        "length", "total", "alike", "bestPair", "fits", "mostTurns", "ifPlayed", "fewestTurns",
    };

    // ---- which calls

    private static int small(Random random, int most) {
        switch (random.nextInt(40)) {
            case 0:
                return -1;
            case 1:
                return most + 1;
            case 2:
                return random.nextInt();
            case 3:
                return random.nextBoolean() ? Integer.MIN_VALUE : Integer.MAX_VALUE;
            default:
                return random.nextInt(most + 1);
        }
    }

    private static int low(Random random) {
        return random.nextInt(3) == 0 ? small(random, 5) : random.nextInt(3);
    }

    private static int[] anyCall(Random random) {
        int method = random.nextInt(METHODS);
        if (method == 2 || method == 3 || method == 7 || method == 10 || method == 12 || method == 14) {
            // what takes away is asked less often
            method = random.nextInt(3) == 0 ? method : random.nextInt(METHODS);
        }
        switch (method) {
            case 0:
                return new int[] {0, small(random, 5), small(random, random.nextInt(3) == 0 ? 99 : 29)};
            case 4:
                return new int[] {4, low(random), low(random)};
            case 6:
                return new int[] {6, low(random), random.nextBoolean() ? small(random, 100) : 1 + random.nextInt(4)};
            case 9:
                return new int[] {9, random.nextInt(4) == 0 ? random.nextInt(65536) : "gwacst;,()+-0123456789".charAt(random.nextInt(22))};
            case 15:
                return new int[] {15, small(random, 29)};
            case 16:
                return new int[] {16, low(random), random.nextInt(2) == 0 ? small(random, 12) : random.nextInt(3), small(random, 1)};
            case 17:
                return new int[] {17, low(random), random.nextInt(2) == 0 ? small(random, 12) : random.nextInt(3), small(random, 3)};
            case 18:
                return new int[] {18, low(random), small(random, 2)};
            case 19:
                return new int[] {19, small(random, 11)};
            case 20:
                return new int[] {20, low(random), low(random), small(random, 1)};
            case 21:
                return new int[] {21, small(random, 1)};
            case 22:
                return new int[] {22, low(random), low(random)};
            case 24:
                return new int[] {24, low(random), random.nextBoolean() ? small(random, 100) : 1 + random.nextInt(5), small(random, 4)};
            case 25:
                return new int[] {25, low(random), random.nextBoolean() ? small(random, 29) : random.nextInt(4), small(random, 99)};
            default:
                return new int[] {method, low(random)};
        }
    }

    private static final int[] MOST = {29, 99, 99, 29, 29, 99};

    /** A row of calls that mean something together. */
    private static void plan(Random random, List<int[]> script, Model model) {
        switch (random.nextInt(4)) {
            case 0:
                planText(random, script);
                break;
            case 1:
                if (model.now.loops.size() > 0) {
                    int loop = random.nextInt(model.now.loops.size());
                    script.add(new int[] {6, loop, 1 + random.nextInt(12)});
                    script.add(new int[] {8, loop});
                    script.add(new int[] {19, 8});
                    // a value that some number of turns does leave
                    State then = model.now.copy();
                    then.play(model.now.loops.get(loop).body, 1 + random.nextInt(20));
                    int cell = random.nextBoolean() ? then.hand : random.nextInt(30);
                    script.add(new int[] {25, loop, cell, then.cells[cell]});
                    script.add(new int[] {25, loop, cell, random.nextInt(100)});
                }
                break;
            default:
                planTry(random, script, model);
                break;
        }
    }

    private static void planText(Random random, List<int[]> script) {
        StringBuilder text = new StringBuilder();
        int items = 1 + random.nextInt(random.nextInt(4) == 0 ? 20 : 4);
        for (int item = 0; item < items; item++) {
            text.append(item > 0 ? ";" : "");
            if (random.nextInt(2) == 0) {
                text.append(textStep(random));
                continue;
            }
            text.append(random.nextInt(8) == 0 ? random.nextInt(120) : 2 + random.nextInt(20)).append('(');
            int steps = 1 + random.nextInt(random.nextInt(6) == 0 ? 19 : 3);
            for (int step = 0; step < steps; step++) {
                text.append(step > 0 ? "," : "").append(textStep(random));
                if (random.nextInt(2) == 0) {
                    text.append(random.nextBoolean() ? '+' : '-');
                    text.append(random.nextInt(12) == 0 ? random.nextInt(110) : 1 + random.nextInt(5));
                }
            }
            text.append(')');
        }
        if (random.nextInt(2) == 0) {
            int at = random.nextInt(text.length());
            char sign = "gwacst;,()+-0123456789 x".charAt(random.nextInt(24));
            switch (random.nextInt(3)) {
                case 0:
                    text.deleteCharAt(at);
                    break;
                case 1:
                    text.setCharAt(at, sign);
                    break;
                default:
                    text.insert(at, sign);
                    break;
            }
        }
        script.add(new int[] {10, 0});
        for (int i = 0; i < Math.min(text.length(), 61); i++) {
            script.add(new int[] {9, text.charAt(i)});
        }
        script.add(new int[] {11, 0});
        script.add(new int[] {19, 7});
        script.add(new int[] {19, 8});
    }

    private static String textStep(Random random) {
        int verb = random.nextInt(6);
        int most = random.nextInt(15) == 0 ? 120 : MOST[verb];
        return "gwacst".charAt(verb) + "" + random.nextInt(most + 1);
    }

    private static void planTry(Random random, List<int[]> script, Model model) {
        List<int[]> steps = new ArrayList<>();
        List<List<int[]>> tries = model.now.tries;
        if (!tries.isEmpty() && random.nextInt(3) != 0) {
            // one alike an earlier one
            for (int[] step : tries.get(random.nextInt(tries.size()))) {
                int number = random.nextInt(3) == 0 ? step[1] + random.nextInt(7) - 3 : step[1];
                steps.add(new int[] {step[0], Math.max(0, Math.min(MOST[step[0]], number))});
            }
            if (random.nextInt(5) == 0) {
                steps.remove(random.nextInt(steps.size()));
            }
        } else if (!model.now.loops.isEmpty() && random.nextInt(2) == 0) {
            // some turns of a loop
            Loop loop = model.now.loops.get(random.nextInt(model.now.loops.size()));
            int turns = 1 + random.nextInt(Math.max(1, 12 / loop.body.size()));
            for (int turn = 0; turn < turns; turn++) {
                for (int[] step : loop.body) {
                    steps.add(new int[] {step[0], step[1] + turn * step[2]});
                }
            }
        } else {
            int body = 1 + random.nextInt(4);
            int turns = 1 + random.nextInt(12 / body);
            int[] verbs = new int[body];
            int[] numbers = new int[body];
            int[] strides = new int[body];
            for (int i = 0; i < body; i++) {
                verbs[i] = random.nextInt(random.nextBoolean() ? 6 : 2);
                numbers[i] = random.nextInt(MOST[verbs[i]] + 1);
                strides[i] = random.nextInt(5) - 2;
            }
            for (int turn = 0; turn < turns; turn++) {
                for (int i = 0; i < body; i++) {
                    int number = numbers[i] + turn * strides[i];
                    steps.add(new int[] {verbs[i], Math.max(0, Math.min(MOST[verbs[i]], number))});
                }
            }
        }
        if (tries.size() >= 5) {
            script.add(new int[] {3, random.nextInt(5)});
        }
        if (model.now.loops.size() >= 5) {
            script.add(new int[] {7, random.nextInt(5)});
        }
        script.add(new int[] {1, 0});
        for (int[] step : steps) {
            script.add(new int[] {0, step[0], step[1]});
        }
        script.add(new int[] {2, 0});
        int last = Math.min(tries.size(), 5);
        script.add(new int[] {5, last});
        script.add(new int[] {4, random.nextInt(last + 1), last});
        script.add(new int[] {21, 0});
        script.add(new int[] {22, random.nextInt(3), last});
        script.add(new int[] {20, random.nextInt(last + 1), last, random.nextInt(2)});
    }

    private static int ofClass(TryLoops x, int[] c) {
        switch (c[0]) {
            case 0: return x.step(c[1], c[2]);
            case 1: return x.record();
            case 2: return x.end();
            case 3: return x.dropTry(c[1]);
            case 4: return x.generalise(c[1], c[2]);
            case 5: return x.fold(c[1]);
            case 6: return x.setTurns(c[1], c[2]);
            case 7: return x.dropLoop(c[1]);
            case 8: return x.play(c[1]);
            case 9: return x.type((char) c[1]);
            case 10: return x.clearText();
            case 11: return x.perform();
            case 12: return x.undo();
            case 13: return x.keep();
            case 14: return x.restore();
            case 15: return x.cell(c[1]);
            case 16: return x.ofTry(c[1], c[2], c[3]);
            case 17: return x.ofLoop(c[1], c[2], c[3]);
            case 18: return x.length(c[1], c[2]);
            case 19: return x.total(c[1]);
            case 20: return x.alike(c[1], c[2], c[3]);
            case 21: return x.bestPair(c[1]);
            case 22: return x.fits(c[1], c[2]);
            case 23: return x.mostTurns(c[1]);
            case 24: return x.ifPlayed(c[1], c[2], c[3]);
            default: return x.fewestTurns(c[1], c[2], c[3]);
        }
    }

    // ---- the model

    /** A body of {verb, number, stride}. */
    private static final class Loop {
        final List<int[]> body;
        final int turns;

        Loop(List<int[]> body, int turns) {
            this.body = body;
            this.turns = turns;
        }
    }

    private static final class State {
        int[] cells = new int[30];
        int hand;
        List<List<int[]>> tries = new ArrayList<>();
        List<int[]> open;
        List<Loop> loops = new ArrayList<>();
        int done;
        int failed;
        int plays;
        int reason = -5;

        State copy() {
            State s = new State();
            s.cells = cells.clone();
            s.hand = hand;
            for (List<int[]> one : tries) {
                s.tries.add(new ArrayList<>(one));
            }
            s.open = open == null ? null : new ArrayList<>(open);
            s.loops = new ArrayList<>(loops);
            s.done = done;
            s.failed = failed;
            s.plays = plays;
            s.reason = reason;
            return s;
        }

        /** Whether it is passed. */
        boolean obey(int verb, int number) {
            done++;
            int was = cells[hand];
            if (verb == 0) {
                hand = number;
            } else if (verb == 1) {
                cells[hand] = number;
            } else if (verb == 2) {
                cells[hand] = (was + number) % 100;
            } else if (verb == 3) {
                cells[hand] = cells[number];
            } else if (verb == 4) {
                int other = cells[number];
                cells[number] = was;
                cells[hand] = other;
            } else if (was > number) {
                failed++;
                return false;
            }
            return true;
        }

        int play(List<int[]> body, int turns) {
            plays++;
            int before = done;
            for (int turn = 0; turn < turns; turn++) {
                for (int[] step : body) {
                    int number = step[1] + turn * step[2];
                    if (number < 0 || number > MOST[step[0]]) {
                        reason = 1;
                        return done - before;
                    }
                    if (!obey(step[0], number)) {
                        reason = 2;
                        return done - before;
                    }
                }
            }
            reason = 0;
            return done - before;
        }

        int sum() {
            int sum = 0;
            for (int cell : cells) {
                sum += cell;
            }
            return sum;
        }
    }

    private static final class Model {
        State now = new State();
        final List<State> history = new ArrayList<>();
        State snapshot;
        String text = "";

        int answer(int[] c) {
            State before = now.copy();
            int answer = ask(c);
            boolean change = c[0] <= 8 || c[0] == 11 || c[0] == 14;
            if (change && answer >= 0) {
                history.add(before);
                if (history.size() > 4) {
                    history.remove(0);
                }
            } else if (change) {
                now = before;
            }
            return answer;
        }

        private boolean isTry(int number) {
            return number >= 0 && number < now.tries.size();
        }

        private boolean isLoop(int loop) {
            return loop >= 0 && loop < now.loops.size();
        }

        private int ask(int[] c) {
            switch (c[0]) {
                case 0: return step(c[1], c[2]);
                case 1: return record();
                case 2: return end();
                case 3: return dropTry(c[1]);
                case 4: return generalise(c[1], c[2]);
                case 5: return fold(c[1]);
                case 6: return setTurns(c[1], c[2]);
                case 7: return dropLoop(c[1]);
                case 8:
                    return !isLoop(c[1]) ? -1 : now.open != null ? -4
                            : now.play(now.loops.get(c[1]).body, now.loops.get(c[1]).turns);
                case 9: return type((char) c[1]);
                case 10: {
                    int length = text.length();
                    text = "";
                    return length;
                }
                case 11: return perform();
                case 12:
                    if (history.isEmpty()) {
                        return -5;
                    }
                    now = history.remove(history.size() - 1);
                    return history.size();
                case 13:
                    snapshot = now.copy();
                    return now.tries.size();
                case 14:
                    if (snapshot == null) {
                        return -5;
                    }
                    now = snapshot.copy();
                    return now.tries.size();
                case 15: return c[1] < 0 || c[1] > 29 ? -1 : now.cells[c[1]];
                case 16: return ofTry(c[1], c[2], c[3]);
                case 17: return ofLoop(c[1], c[2], c[3]);
                case 18: return length(c[1], c[2]);
                case 19: return total(c[1]);
                case 20: return alike(c[1], c[2], c[3]);
                case 21: return bestPair(c[1]);
                case 22: return fits(c[1], c[2]);
                case 23: return mostTurns(c[1]);
                case 24: return ifPlayed(c[1], c[2], c[3]);
                default: return fewestTurns(c[1], c[2], c[3]);
            }
        }

        private int step(int verb, int number) {
            if (verb < 0 || verb > 5) {
                return -1;
            }
            if (number < 0 || number > MOST[verb]) {
                return -2;
            }
            if (now.open != null && now.open.size() == 12) {
                return -3;
            }
            if (now.open != null) {
                now.open.add(new int[] {verb, number});
            }
            return now.obey(verb, number) ? now.cells[now.hand] : 100;
        }

        private int record() {
            if (now.open != null) {
                return -4;
            }
            if (now.tries.size() == 6) {
                return -3;
            }
            now.open = new ArrayList<>();
            return now.tries.size();
        }

        private int end() {
            if (now.open == null) {
                return -4;
            }
            List<int[]> open = now.open;
            now.open = null;
            if (open.isEmpty()) {
                return 100;
            }
            now.tries.add(open);
            return now.tries.size() - 1;
        }

        private int dropTry(int number) {
            if (!isTry(number)) {
                return -1;
            }
            now.tries.remove(number);
            return now.tries.size();
        }

        private static String verbs(List<int[]> steps) {
            StringBuilder verbs = new StringBuilder();
            for (int[] step : steps) {
                verbs.append(step[0]);
            }
            return verbs.toString();
        }

        private int addLoop(List<int[]> body, int turns) {
            if (now.loops.size() == 6) {
                return -3;
            }
            now.loops.add(new Loop(body, turns));
            return now.loops.size() - 1;
        }

        private int generalise(int one, int other) {
            if (!isTry(one) || !isTry(other)) {
                return -1;
            }
            List<int[]> first = now.tries.get(one);
            List<int[]> second = now.tries.get(other);
            if (one == other || !verbs(first).equals(verbs(second))) {
                return -4;
            }
            List<int[]> body = new ArrayList<>();
            for (int i = 0; i < first.size(); i++) {
                body.add(new int[] {first.get(i)[0], first.get(i)[1], second.get(i)[1] - first.get(i)[1]});
            }
            return addLoop(body, 2);
        }

        private int fold(int number) {
            if (!isTry(number)) {
                return -1;
            }
            List<int[]> steps = now.tries.get(number);
            for (int period = 1; period < steps.size(); period++) {
                if (steps.size() % period != 0) {
                    continue;
                }
                List<int[]> body = new ArrayList<>();
                for (int i = 0; i < period; i++) {
                    int stride = steps.get(i + period)[1] - steps.get(i)[1];
                    body.add(new int[] {steps.get(i)[0], steps.get(i)[1], stride});
                }
                // the fold is right if unrolling it gives the try again
                if (turnsOf(body, steps) == steps.size() / period) {
                    return addLoop(body, steps.size() / period);
                }
            }
            return -4;
        }

        /** How many turns of the body the steps are, 0 if they are not. */
        private static int turnsOf(List<int[]> body, List<int[]> steps) {
            List<String> unrolled = new ArrayList<>();
            List<String> done = new ArrayList<>();
            for (int[] step : steps) {
                done.add(step[0] + ":" + step[1]);
            }
            for (int turn = 0; turn < 12; turn++) {
                for (int[] step : body) {
                    unrolled.add(step[0] + ":" + (step[1] + turn * step[2]));
                }
                if (unrolled.equals(done)) {
                    return turn + 1;
                }
            }
            return 0;
        }

        private int setTurns(int loop, int turns) {
            if (!isLoop(loop)) {
                return -1;
            }
            if (turns < 1 || turns > 99) {
                return -2;
            }
            Loop was = now.loops.get(loop);
            if (was.turns == turns) {
                return -5;
            }
            now.loops.set(loop, new Loop(was.body, turns));
            return was.turns;
        }

        private int dropLoop(int loop) {
            if (!isLoop(loop)) {
                return -1;
            }
            now.loops.remove(loop);
            return now.loops.size();
        }

        private int type(char character) {
            if (text.length() == 60) {
                return -3;
            }
            text = text + character;
            return text.length();
        }

        private static final String CELL = "(?:0|[12][0-9]?|[3-9])";
        private static final String VALUE = "(?:0|[1-9][0-9]?)";
        private static final String STEP = "(?:[gcs]" + CELL + "|[wat]" + VALUE + ")";
        private static final String STRIDED = STEP + "(?:[+-][1-9][0-9]?)?";
        private static final String LOOP = "(?:1[0-9]|[2-9][0-9]?)\\(" + STRIDED + "(?:," + STRIDED + ")*\\)";
        private static final String ITEM = "(?:" + STEP + "|" + LOOP + ")";
        private static final Pattern PROGRAM = Pattern.compile(ITEM + "(?:;" + ITEM + ")*", Pattern.DOTALL);

        /** -1 if there is none. */
        private int fault() {
            if (PROGRAM.matcher(text).matches()) {
                return -1;
            }
            for (int length = 1; length <= text.length(); length++) {
                Matcher matcher = PROGRAM.matcher(text.substring(0, length));
                if (!matcher.matches() && !matcher.hitEnd()) {
                    return length - 1;
                }
            }
            return text.length();
        }

        private int perform() {
            int fault = fault();
            if (fault >= 0) {
                return -100 - fault;
            }
            if (now.open != null) {
                return -4;
            }
            int before = now.done;
            for (String item : text.split(";")) {
                int bracket = item.indexOf('(');
                if (bracket < 0) {
                    now.obey("gwacst".indexOf(item.charAt(0)), Integer.parseInt(item.substring(1)));
                    continue;
                }
                List<int[]> body = new ArrayList<>();
                for (String step : item.substring(bracket + 1, item.length() - 1).split(",")) {
                    String[] parts = step.substring(1).split("(?=[+-])");
                    int stride = parts.length > 1 ? Integer.parseInt(parts[1]) : 0;
                    body.add(new int[] {"gwacst".indexOf(step.charAt(0)), Integer.parseInt(parts[0]), stride});
                }
                now.play(body, Integer.parseInt(item.substring(0, bracket)));
            }
            return now.done - before;
        }

        private int ofTry(int number, int step, int what) {
            List<int[]> steps = isTry(number) ? now.tries.get(number) : number == now.tries.size() ? now.open : null;
            if (steps == null || step < 0 || step >= steps.size()) {
                return -1;
            }
            return what < 0 || what > 1 ? -2 : steps.get(step)[what];
        }

        private int ofLoop(int loop, int step, int what) {
            if (!isLoop(loop) || step < 0 || step >= now.loops.get(loop).body.size()) {
                return -1;
            }
            int[] of = now.loops.get(loop).body.get(step);
            if (what == 3) {
                return 10000 + of[1] + (now.loops.get(loop).turns - 1) * of[2];
            }
            return what < 0 || what > 3 ? -2 : what == 2 ? 1000 + of[2] : of[what];
        }

        private int length(int number, int what) {
            if (what < 0 || what > 2) {
                return -2;
            }
            if (what == 0) {
                return isTry(number) ? now.tries.get(number).size() : -1;
            }
            if (!isLoop(number)) {
                return -1;
            }
            return what == 1 ? now.loops.get(number).body.size() : now.loops.get(number).turns;
        }

        private int total(int what) {
            HashSet<String> rows = new HashSet<>();
            for (List<int[]> one : now.tries) {
                rows.add(verbs(one));
            }
            int[] totals = {
                now.hand, now.sum(), now.tries.size(), now.open == null ? -5 : now.open.size(),
                now.loops.size(), now.done, now.failed, now.plays, now.reason, rows.size(),
                history.size(), text.length(),
            };
            return what < 0 || what > 11 ? -2 : totals[what];
        }

        private int alike(int one, int other, int what) {
            if (!isTry(one) || !isTry(other)) {
                return -1;
            }
            return what < 0 || what > 1 ? -2 : common(now.tries.get(one), now.tries.get(other), what);
        }

        /** By every way to leave steps of the first one out. */
        private static int common(List<int[]> one, List<int[]> other, int what) {
            int best = 0;
            for (int chosen = 0; chosen < 1 << one.size(); chosen++) {
                if (Integer.bitCount(chosen) > best && stands(one, chosen, other, what)) {
                    best = Integer.bitCount(chosen);
                }
            }
            return best;
        }

        private static boolean stands(List<int[]> one, int chosen, List<int[]> other, int what) {
            int at = 0;
            for (int i = 0; i < one.size(); i++) {
                if ((chosen >> i & 1) == 0) {
                    continue;
                }
                while (at < other.size() && (one.get(i)[0] != other.get(at)[0]
                        || what == 1 && one.get(i)[1] != other.get(at)[1])) {
                    at++;
                }
                if (at++ >= other.size()) {
                    return false;
                }
            }
            return true;
        }

        private int bestPair(int what) {
            if (what < 0 || what > 1) {
                return -2;
            }
            // later pairs first, so that an equal earlier one takes their place
            int best = -5;
            int most = -5;
            for (int one = now.tries.size() - 1; one >= 0; one--) {
                for (int other = now.tries.size() - 1; other > one; other--) {
                    List<int[]> first = now.tries.get(one);
                    List<int[]> second = now.tries.get(other);
                    if (!verbs(first).equals(verbs(second))) {
                        continue;
                    }
                    int zeros = 0;
                    for (int i = 0; i < first.size(); i++) {
                        zeros += first.get(i)[1] == second.get(i)[1] ? 1 : 0;
                    }
                    if (zeros >= most) {
                        most = zeros;
                        best = 10 * one + other;
                    }
                }
            }
            return what == 0 ? best : most;
        }

        private int fits(int loop, int number) {
            if (!isLoop(loop) || !isTry(number)) {
                return -1;
            }
            int turns = turnsOf(now.loops.get(loop).body, now.tries.get(number));
            return turns == 0 ? -5 : turns;
        }

        private int mostTurns(int loop) {
            if (!isLoop(loop)) {
                return -1;
            }
            for (int turn = 0; turn < 1000; turn++) {
                for (int[] step : now.loops.get(loop).body) {
                    int number = step[1] + turn * step[2];
                    if (number < 0 || number > MOST[step[0]]) {
                        return turn;
                    }
                }
            }
            return -5;
        }

        private int ifPlayed(int loop, int turns, int what) {
            if (!isLoop(loop)) {
                return -1;
            }
            if (turns < 1 || turns > 99 || what < 0 || what > 4) {
                return -2;
            }
            State then = now.copy();
            then.failed = 0;
            List<int[]> body = now.loops.get(loop).body;
            int done = then.play(body, turns);
            int tests = 0;
            for (int i = 0; i < done; i++) {
                tests += body.get(i % body.size())[0] == 5 ? 1 : 0;
            }
            int[] answers = {done, then.reason, then.sum(), then.hand, tests - then.failed};
            return answers[what];
        }

        private int fewestTurns(int loop, int cell, int value) {
            if (!isLoop(loop) || cell < 0 || cell > 29) {
                return -1;
            }
            if (value < 0 || value > 99) {
                return -2;
            }
            for (int turns = 1; turns <= 99; turns++) {
                State then = now.copy();
                then.play(now.loops.get(loop).body, turns);
                if (then.cells[cell] == value) {
                    return turns;
                }
            }
            return -5;
        }
    }
}
