/**
 * A recorder that makes a loop of two tries: see ../shared/DOC.md, whose promises the public
 * methods keep. All rows are made with the object and used again, so that no call makes one.
 */
public final class TryLoops {
    public static final int UNKNOWN = -1;
    public static final int OUT_OF_RANGE = -2;
    public static final int FULL = -3;
    public static final int NOT_POSSIBLE = -4;
    public static final int NONE = -5;

    private static final int CELLS = 30;
    private static final int VALUES = 100;
    private static final int MOST_TRIES = 6;
    private static final int MOST_LOOPS = 6;
    private static final int MOST_STEPS = 12;
    private static final int MOST_TURNS = 99;
    private static final int MOST_STRIDE = 99;
    private static final int MOST_STATES = 4;
    private static final int TEXT_ROOM = 60;
    /** An item, and a step in a loop, takes two characters, and one parts it from the next. */
    private static final int MOST_ITEMS = (TEXT_ROOM + 1) / 3;

    private static final String VERBS = "gwacst";
    private static final int GO = 0;
    private static final int WRITE = 1;
    private static final int ADD = 2;
    private static final int COPY = 3;
    private static final int SWAP = 4;
    private static final int TEST = 5;

    private static final int BY_TURNS = 0;
    private static final int BY_RANGE = 1;
    private static final int BY_TEST = 2;

    private static final int TEST_FAILED = 100;
    private static final int TRY_WAS_EMPTY = 100;
    private static final int FAULT_BASE = -100;
    private static final int STRIDE_BASE = 1000;
    private static final int LAST_NUMBER_BASE = 10000;

    private final State now;
    private final History history;
    private final State snapshot;
    private boolean snapshotTaken;
    private final Text text;
    private final Play run;
    private final Row rehearsal;
    private final int[] commonCounts;

    public TryLoops() {
        now = new State();
        history = new History();
        snapshot = new State();
        text = new Text();
        run = new Play();
        rehearsal = new Row();
        commonCounts = new int[MOST_STEPS + 1];
    }

    // ---- steps, tries

    public int step(int verb, int number) {
        if (!isVerb(verb)) {
            return UNKNOWN;
        }
        if (!inRange(verb, number)) {
            return OUT_OF_RANGE;
        }
        if (now.open && now.openSize() >= MOST_STEPS) {
            return FULL;
        }
        history.push(now);
        boolean passed = now.obey(verb, number);
        if (now.open) {
            now.tries.append(now.tries.count, verb, number, 0);
        }
        return passed ? now.row.valueUnderHand() : TEST_FAILED;
    }

    public int record() {
        if (now.open) {
            return NOT_POSSIBLE;
        }
        if (now.tries.isFull()) {
            return FULL;
        }
        history.push(now);
        now.open = true;
        now.tries.emptyNext();
        return now.tries.count;
    }

    public int end() {
        if (!now.open) {
            return NOT_POSSIBLE;
        }
        history.push(now);
        now.open = false;
        if (now.openSize() == 0) {
            return TRY_WAS_EMPTY;
        }
        return now.tries.keepNext(1);
    }

    public int dropTry(int number) {
        if (!now.tries.holds(number)) {
            return UNKNOWN;
        }
        history.push(now);
        now.tries.drop(number);
        return now.tries.count;
    }

    // ---- loops

    public int generalise(int one, int other) {
        if (!now.tries.holds(one) || !now.tries.holds(other)) {
            return UNKNOWN;
        }
        if (!canGeneralise(one, other)) {
            return NOT_POSSIBLE;
        }
        if (now.loops.isFull()) {
            return FULL;
        }
        history.push(now);
        return makeLoop(one, other, 0, now.tries.sizeOf(one), 2);
    }

    public int fold(int number) {
        if (!now.tries.holds(number)) {
            return UNKNOWN;
        }
        int period = leastPeriod(number);
        if (period <= 0) {
            return NOT_POSSIBLE;
        }
        if (now.loops.isFull()) {
            return FULL;
        }
        history.push(now);
        return makeLoop(number, number, period, period, now.tries.sizeOf(number) / period);
    }

    public int setTurns(int loop, int turns) {
        if (!now.loops.holds(loop)) {
            return UNKNOWN;
        }
        if (!isTurns(turns)) {
            return OUT_OF_RANGE;
        }
        int previous = now.loops.turnsOf(loop);
        if (previous == turns) {
            return NONE;
        }
        history.push(now);
        now.loops.giveTurns(loop, turns);
        return previous;
    }

    public int dropLoop(int loop) {
        if (!now.loops.holds(loop)) {
            return UNKNOWN;
        }
        history.push(now);
        now.loops.drop(loop);
        return now.loops.count;
    }

    public int play(int loop) {
        if (!now.loops.holds(loop)) {
            return UNKNOWN;
        }
        if (now.open) {
            return NOT_POSSIBLE;
        }
        history.push(now);
        return now.playLoop(run, now.loops, loop);
    }

    // ---- texts

    public int type(char character) {
        return text.append(character) ? text.size : FULL;
    }

    public int clearText() {
        int before = text.size;
        text.size = 0;
        return before;
    }

    public int perform() {
        if (!text.read()) {
            return FAULT_BASE - text.at;
        }
        if (now.open) {
            return NOT_POSSIBLE;
        }
        history.push(now);
        Shelf items = text.items;
        int done = 0;
        for (int item = 0; item < items.count; item++) {
            if (items.turnsOf(item) > 0) {
                done += now.playLoop(run, items, item);
            } else {
                now.obey(items.verbAt(item, 0), items.numberAt(item, 0));
                done++;
            }
        }
        return done;
    }

    // ---- history

    public int undo() {
        return history.pop(now) ? history.count : NONE;
    }

    public int keep() {
        snapshot.copyFrom(now);
        snapshotTaken = true;
        return now.tries.count;
    }

    public int restore() {
        if (!snapshotTaken) {
            return NONE;
        }
        history.push(now);
        now.copyFrom(snapshot);
        return now.tries.count;
    }

    // ---- what there is

    public int cell(int cell) {
        return isCell(cell) ? now.row.valueAt(cell) : UNKNOWN;
    }

    public int ofTry(int number, int step, int what) {
        boolean isOpenOne = now.open && number == now.tries.count;
        if (!isOpenOne && !now.tries.holds(number)) {
            return UNKNOWN;
        }
        if (!now.tries.hasStep(number, step)) {
            return UNKNOWN;
        }
        switch (what) {
            case 0:
                return now.tries.verbAt(number, step);
            case 1:
                return now.tries.numberAt(number, step);
            default:
                return OUT_OF_RANGE;
        }
    }

    public int ofLoop(int loop, int step, int what) {
        Shelf loops = now.loops;
        if (!loops.holds(loop) || !loops.hasStep(loop, step)) {
            return UNKNOWN;
        }
        switch (what) {
            case 0:
                return loops.verbAt(loop, step);
            case 1:
                return loops.numberAt(loop, step);
            case 2:
                return loops.strideAt(loop, step) + STRIDE_BASE;
            case 3:
                return loops.numberInTurn(loop, step, loops.turnsOf(loop) - 1) + LAST_NUMBER_BASE;
            default:
                return OUT_OF_RANGE;
        }
    }

    public int length(int number, int what) {
        switch (what) {
            case 0:
                return now.tries.holds(number) ? now.tries.sizeOf(number) : UNKNOWN;
            case 1:
                return now.loops.holds(number) ? now.loops.sizeOf(number) : UNKNOWN;
            case 2:
                return now.loops.holds(number) ? now.loops.turnsOf(number) : UNKNOWN;
            default:
                return OUT_OF_RANGE;
        }
    }

    public int total(int what) {
        switch (what) {
            case 0:
                return now.row.hand;
            case 1:
                return now.row.sum();
            case 2:
                return now.tries.count;
            case 3:
                return now.open ? now.openSize() : NONE;
            case 4:
                return now.loops.count;
            case 5:
                return now.stepsDone;
            case 6:
                return now.testsFailed;
            case 7:
                return now.plays;
            case 8:
                return now.latestReason;
            case 9:
                return countVerbRows();
            case 10:
                return history.count;
            case 11:
                return text.size;
            default:
                return OUT_OF_RANGE;
        }
    }

    // ---- what could be, what would be; nothing changes

    public int alike(int one, int other, int what) {
        if (!now.tries.holds(one) || !now.tries.holds(other)) {
            return UNKNOWN;
        }
        if (what < 0 || what > 1) {
            return OUT_OF_RANGE;
        }
        return countCommon(one, other, what == 1);
    }

    public int bestPair(int what) {
        if (what < 0 || what > 1) {
            return OUT_OF_RANGE;
        }
        int best = NONE;
        int bestZeros = -1;
        int count = now.tries.count;
        for (int one = 0; one < count; one++) {
            for (int other = one + 1; other < count; other++) {
                // only a pair with more zeros wins, so that of equals the lowest stays
                int zeros = canGeneralise(one, other) ? countZeroStrides(one, other) : -1;
                if (zeros > bestZeros) {
                    bestZeros = zeros;
                    best = 10 * one + other;
                }
            }
        }
        return what == 0 || best == NONE ? best : bestZeros;
    }

    public int fits(int loop, int number) {
        if (!now.loops.holds(loop) || !now.tries.holds(number)) {
            return UNKNOWN;
        }
        int body = now.loops.sizeOf(loop);
        int size = now.tries.sizeOf(number);
        if (body <= 0 || size % body != 0) {
            return NONE;
        }
        int turns = size / body;
        for (int turn = 0; turn < turns; turn++) {
            if (!isTurn(loop, turn, number, turn * body)) {
                return NONE;
            }
        }
        return turns;
    }

    public int mostTurns(int loop) {
        if (!now.loops.holds(loop)) {
            return UNKNOWN;
        }
        int most = NONE;
        int body = now.loops.sizeOf(loop);
        for (int step = 0; step < body; step++) {
            int turns = turnsInRange(loop, step);
            if (turns != NONE && (most == NONE || turns < most)) {
                most = turns;
            }
        }
        return most;
    }

    public int ifPlayed(int loop, int turns, int what) {
        if (!now.loops.holds(loop)) {
            return UNKNOWN;
        }
        if (!isTurns(turns) || what < 0 || what > 4) {
            return OUT_OF_RANGE;
        }
        rehearsal.copyFrom(now.row);
        run.doTurns(rehearsal, now.loops, loop, turns);
        switch (what) {
            case 0:
                return run.done;
            case 1:
                return run.reason;
            case 2:
                return rehearsal.sum();
            case 3:
                return rehearsal.hand;
            default:
                return run.testsPassed;
        }
    }

    public int fewestTurns(int loop, int cell, int value) {
        if (!now.loops.holds(loop) || !isCell(cell)) {
            return UNKNOWN;
        }
        if (value < 0 || value >= VALUES) {
            return OUT_OF_RANGE;
        }
        rehearsal.copyFrom(now.row);
        run.begin();
        boolean goesOn = true;
        for (int turn = 0; goesOn && turn < MOST_TURNS; turn++) {
            goesOn = run.doTurn(rehearsal, now.loops, loop, turn);
            // a turn that is cut short counts: a play of so many turns leaves just this
            if (rehearsal.valueAt(cell) == value) {
                return turn + 1;
            }
        }
        return NONE;
    }

    // ---- the words of the document

    private static boolean isVerb(int verb) {
        return verb >= GO && verb <= TEST;
    }

    private static boolean isCell(int cell) {
        return cell >= 0 && cell < CELLS;
    }

    private static boolean isTurns(int turns) {
        return turns >= 1 && turns <= MOST_TURNS;
    }

    private static int greatestNumber(int verb) {
        boolean namesCell = verb == GO || verb == COPY || verb == SWAP;
        return namesCell ? CELLS - 1 : VALUES - 1;
    }

    private static boolean inRange(int verb, int number) {
        return number >= 0 && number <= greatestNumber(verb);
    }

    // ---- tries beside each other

    private boolean canGeneralise(int one, int other) {
        return one != other && now.tries.haveSameVerbs(one, other);
    }

    private int countZeroStrides(int one, int other) {
        int zeros = 0;
        int size = now.tries.sizeOf(one);
        for (int step = 0; step < size; step++) {
            if (now.tries.numberAt(one, step) == now.tries.numberAt(other, step)) {
                zeros++;
            }
        }
        return zeros;
    }

    private int countVerbRows() {
        int rows = 0;
        for (int number = 0; number < now.tries.count; number++) {
            boolean isNew = true;
            for (int earlier = 0; isNew && earlier < number; earlier++) {
                isNew = !now.tries.haveSameVerbs(earlier, number);
            }
            if (isNew) {
                rows++;
            }
        }
        return rows;
    }

    /** The longest common subsequence, by the usual table, of which one row is held at a time. */
    private int countCommon(int one, int other, boolean wholeSteps) {
        int columns = Math.min(now.tries.sizeOf(other), commonCounts.length - 1);
        for (int column = 0; column <= columns; column++) {
            commonCounts[column] = 0;
        }
        int rows = now.tries.sizeOf(one);
        for (int row = 0; row < rows; row++) {
            int diagonal = 0;
            for (int column = 1; column <= columns; column++) {
                int above = commonCounts[column];
                if (areAlike(one, row, other, column - 1, wholeSteps)) {
                    commonCounts[column] = diagonal + 1;
                } else {
                    commonCounts[column] = Math.max(above, commonCounts[column - 1]);
                }
                diagonal = above;
            }
        }
        return columns < 0 ? 0 : commonCounts[columns];
    }

    private boolean areAlike(int one, int step, int other, int otherStep, boolean wholeSteps) {
        Shelf tries = now.tries;
        if (tries.verbAt(one, step) != tries.verbAt(other, otherStep)) {
            return false;
        }
        return !wholeSteps || tries.numberAt(one, step) == tries.numberAt(other, otherStep);
    }

    // ---- loops out of tries, and back

    /** The body is the first steps of one; the strides lead to the steps of other from ahead on. */
    private int makeLoop(int one, int other, int ahead, int body, int turns) {
        Shelf tries = now.tries;
        now.loops.emptyNext();
        int loop = now.loops.count;
        for (int step = 0; step < body; step++) {
            int number = tries.numberAt(one, step);
            int stride = tries.numberAt(other, ahead + step) - number;
            now.loops.append(loop, tries.verbAt(one, step), number, stride);
        }
        return now.loops.keepNext(turns);
    }

    /** The least length by which a try can be folded, or 0. */
    private int leastPeriod(int number) {
        int size = now.tries.sizeOf(number);
        for (int period = 1; 2 * period <= size; period++) {
            if (size % period == 0 && repeatsBy(number, period)) {
                return period;
            }
        }
        return 0;
    }

    private boolean repeatsBy(int number, int period) {
        Shelf tries = now.tries;
        int size = tries.sizeOf(number);
        for (int step = period; step < size; step++) {
            if (tries.verbAt(number, step) != tries.verbAt(number, step - period)) {
                return false;
            }
            // the first rise sets the stride; each later one is compared to the one before it
            if (step >= 2 * period
                    && riseAt(number, step, period) != riseAt(number, step - period, period)) {
                return false;
            }
        }
        return true;
    }

    private int riseAt(int number, int step, int period) {
        return now.tries.numberAt(number, step) - now.tries.numberAt(number, step - period);
    }

    /** Whether the steps of a try, from a first one on, are a turn of a loop. */
    private boolean isTurn(int loop, int turn, int number, int first) {
        int body = now.loops.sizeOf(loop);
        for (int step = 0; step < body; step++) {
            if (now.loops.verbAt(loop, step) != now.tries.verbAt(number, first + step)) {
                return false;
            }
            if (now.loops.numberInTurn(loop, step, turn) != now.tries.numberAt(number, first + step)) {
                return false;
            }
        }
        return true;
    }

    /** How many turns the number of a step stays in its range; NONE if its stride is 0. */
    private int turnsInRange(int loop, int step) {
        int number = now.loops.numberAt(loop, step);
        int stride = now.loops.strideAt(loop, step);
        if (stride > 0) {
            return (greatestNumber(now.loops.verbAt(loop, step)) - number) / stride + 1;
        }
        if (stride < 0) {
            return number / -stride + 1;
        }
        return NONE;
    }

    private static void copyNumbers(int[] from, int[] to) {
        System.arraycopy(from, 0, to, 0, Math.min(from.length, to.length));
    }

    /** The row of cells with the hand. */
    private static final class Row {
        private final int[] cells = new int[CELLS];
        private int hand;

        int valueAt(int cell) {
            return cell >= 0 && cell < cells.length ? cells[cell] : 0;
        }

        int valueUnderHand() {
            return valueAt(hand);
        }

        int sum() {
            int sum = 0;
            for (int value : cells) {
                sum += value;
            }
            return sum;
        }

        void copyFrom(Row other) {
            copyNumbers(other.cells, cells);
            hand = other.hand;
        }

        /** Does a step whose number is in its range; false if it is a test that fails. */
        boolean obey(int verb, int number) {
            int value = valueUnderHand();
            switch (verb) {
                case GO:
                    hand = number;
                    return true;
                case WRITE:
                    put(hand, number);
                    return true;
                case ADD:
                    put(hand, (value + number) % VALUES);
                    return true;
                case COPY:
                    put(hand, valueAt(number));
                    return true;
                case SWAP:
                    put(hand, valueAt(number));
                    put(number, value);
                    return true;
                default:
                    return value <= number;
            }
        }

        private void put(int cell, int value) {
            if (cell >= 0 && cell < cells.length) {
                cells[cell] = value;
            }
        }
    }

    /**
     * Lists of steps in places of one width, numbered from 0: the tries, the loops, or the items of
     * a text. The place behind the last list holds the next one while it grows (the open try).
     */
    private static final class Shelf {
        private final int width;
        private final int[] verbs;
        private final int[] numbers;
        private final int[] strides;
        private final int[] sizes;
        private final int[] turns;
        private int count;

        Shelf(int lists, int width) {
            int places = Math.max(0, lists);
            this.width = Math.max(0, width);
            int room = Math.max(0, places * this.width);
            verbs = new int[room];
            numbers = new int[room];
            strides = new int[room];
            sizes = new int[places];
            turns = new int[places];
        }

        boolean holds(int list) {
            return list >= 0 && list < count;
        }

        boolean isFull() {
            return count >= sizes.length;
        }

        boolean hasStep(int list, int step) {
            return step >= 0 && step < sizeOf(list);
        }

        int sizeOf(int list) {
            return list >= 0 && list < sizes.length ? sizes[list] : 0;
        }

        int turnsOf(int list) {
            return list >= 0 && list < turns.length ? turns[list] : 0;
        }

        int verbAt(int list, int step) {
            return look(verbs, list, step);
        }

        int numberAt(int list, int step) {
            return look(numbers, list, step);
        }

        int strideAt(int list, int step) {
            return look(strides, list, step);
        }

        int numberInTurn(int list, int step, int turn) {
            return numberAt(list, step) + turn * strideAt(list, step);
        }

        boolean haveSameVerbs(int one, int other) {
            int size = sizeOf(one);
            if (size != sizeOf(other)) {
                return false;
            }
            for (int step = 0; step < size; step++) {
                if (verbAt(one, step) != verbAt(other, step)) {
                    return false;
                }
            }
            return true;
        }

        void emptyNext() {
            if (hasPlace(count)) {
                sizes[count] = 0;
            }
        }

        /** Makes the next list one of those that are held, and answers its number. */
        int keepNext(int itsTurns) {
            int list = count;
            giveTurns(list, itsTurns);
            if (!isFull()) {
                count++;
            }
            return list;
        }

        void giveTurns(int list, int itsTurns) {
            if (list >= 0 && list < turns.length) {
                turns[list] = itsTurns;
            }
        }

        void append(int list, int verb, int number, int stride) {
            int step = sizeOf(list);
            int at = list * width + step;
            if (hasPlace(list) && step < width && at >= 0 && at < verbs.length) {
                verbs[at] = verb;
                numbers[at] = number;
                strides[at] = stride;
                sizes[list] = step + 1;
            }
        }

        /** The lists behind it move up, the one that grows too. */
        void drop(int list) {
            if (!holds(list)) {
                return;
            }
            moveUp(verbs, list, width);
            moveUp(numbers, list, width);
            moveUp(strides, list, width);
            moveUp(sizes, list, 1);
            moveUp(turns, list, 1);
            count--;
        }

        void clear() {
            count = 0;
        }

        void copyFrom(Shelf other) {
            copyNumbers(other.verbs, verbs);
            copyNumbers(other.numbers, numbers);
            copyNumbers(other.strides, strides);
            copyNumbers(other.sizes, sizes);
            copyNumbers(other.turns, turns);
            count = other.count;
        }

        private boolean hasPlace(int list) {
            return list >= 0 && list < sizes.length;
        }

        private int look(int[] table, int list, int step) {
            int at = list * width + step;
            return step >= 0 && step < width && at >= 0 && at < table.length ? table[at] : 0;
        }

        private static void moveUp(int[] table, int list, int each) {
            int to = list * each;
            int from = to + each;
            if (to >= 0 && from >= to && from < table.length) {
                System.arraycopy(table, from, table, to, table.length - from);
            }
        }
    }

    /** One play of a loop, and what came of it. */
    private static final class Play {
        private int done;
        private int testsPassed;
        private int reason;

        void begin() {
            done = 0;
            testsPassed = 0;
            reason = BY_TURNS;
        }

        void doTurns(Row row, Shelf loops, int loop, int turns) {
            begin();
            boolean goesOn = true;
            for (int turn = 0; goesOn && turn < turns; turn++) {
                goesOn = doTurn(row, loops, loop, turn);
            }
        }

        /** Does the steps of one turn; false if the play ends in it. */
        boolean doTurn(Row row, Shelf loops, int loop, int turn) {
            int body = loops.sizeOf(loop);
            for (int step = 0; step < body; step++) {
                int verb = loops.verbAt(loop, step);
                int number = loops.numberInTurn(loop, step, turn);
                if (!inRange(verb, number)) {
                    reason = BY_RANGE;
                    return false;
                }
                done++;
                if (!row.obey(verb, number)) {
                    reason = BY_TEST;
                    return false;
                }
                if (verb == TEST) {
                    testsPassed++;
                }
            }
            return true;
        }
    }

    /** All that undo and restore bring back. */
    private static final class State {
        private final Row row = new Row();
        private final Shelf tries = new Shelf(MOST_TRIES, MOST_STEPS);
        private final Shelf loops = new Shelf(MOST_LOOPS, MOST_STEPS);
        private boolean open;
        private int stepsDone;
        private int testsFailed;
        private int plays;
        private int latestReason = NONE;

        int openSize() {
            return tries.sizeOf(tries.count);
        }

        boolean obey(int verb, int number) {
            boolean passed = row.obey(verb, number);
            stepsDone++;
            if (!passed) {
                testsFailed++;
            }
            return passed;
        }

        /** Plays a loop of a shelf, this one's or another, and answers how many steps are done. */
        int playLoop(Play run, Shelf shelf, int loop) {
            run.doTurns(row, shelf, loop, shelf.turnsOf(loop));
            stepsDone += run.done;
            if (run.reason == BY_TEST) {
                testsFailed++;
            }
            plays++;
            latestReason = run.reason;
            return run.done;
        }

        void copyFrom(State other) {
            row.copyFrom(other.row);
            tries.copyFrom(other.tries);
            loops.copyFrom(other.loops);
            open = other.open;
            stepsDone = other.stepsDone;
            testsFailed = other.testsFailed;
            plays = other.plays;
            latestReason = other.latestReason;
        }
    }

    /** The latest states, the oldest one first. */
    private static final class History {
        private final State[] states = new State[MOST_STATES];
        private int count;

        History() {
            for (int place = 0; place < states.length; place++) {
                states[place] = new State();
            }
        }

        void push(State now) {
            if (count >= states.length) {
                dropOldest();
            }
            if (count >= 0 && count < states.length && states[count] != null) {
                states[count].copyFrom(now);
                count++;
            }
        }

        /** Brings the latest state back into now; false if there is none. */
        boolean pop(State now) {
            int latest = count - 1;
            if (latest < 0 || latest >= states.length || states[latest] == null) {
                return false;
            }
            now.copyFrom(states[latest]);
            count = latest;
            return true;
        }

        /** Its object goes to the end, to be written over. */
        private void dropOldest() {
            if (states.length == 0) {
                return;
            }
            State oldest = states[0];
            for (int place = 1; place < states.length; place++) {
                states[place - 1] = states[place];
            }
            states[states.length - 1] = oldest;
            count--;
        }
    }

    /** The text, and its reading into items: an item of 0 turns is a step by itself. */
    private static final class Text {
        private final char[] signs = new char[TEXT_ROOM];
        private int size;
        /** Where the reading stands; when it has failed, this is the fault. */
        private int at;
        private final Shelf items = new Shelf(MOST_ITEMS, MOST_ITEMS);

        boolean append(char sign) {
            if (size < 0 || size >= signs.length) {
                return false;
            }
            signs[size] = sign;
            size++;
            return true;
        }

        boolean read() {
            at = 0;
            items.clear();
            for (int item = 0; item < TEXT_ROOM; item++) {
                if (!readItem()) {
                    return false;
                }
                if (!take(';')) {
                    return at == size;
                }
            }
            return false;
        }

        private boolean readItem() {
            items.emptyNext();
            int turns = 0;
            if (digitOf(next()) < 0) {
                if (!readStep(false)) {
                    return false;
                }
            } else {
                turns = readNumber(2, MOST_TURNS);
                if (turns < 0 || !readBody()) {
                    return false;
                }
            }
            items.keepNext(turns);
            return true;
        }

        private boolean readBody() {
            if (!take('(')) {
                return false;
            }
            for (int step = 0; step < TEXT_ROOM; step++) {
                if (!readStep(true)) {
                    return false;
                }
                if (!take(',')) {
                    return take(')');
                }
            }
            return false;
        }

        private boolean readStep(boolean withStride) {
            int verb = VERBS.indexOf(next());
            if (verb < 0) {
                return false;
            }
            at++;
            int number = readNumber(0, greatestNumber(verb));
            if (number < 0) {
                return false;
            }
            int stride = 0;
            if (withStride && (next() == '+' || next() == '-')) {
                int sign = next() == '+' ? 1 : -1;
                at++;
                int amount = readNumber(1, MOST_STRIDE);
                if (amount < 0) {
                    return false;
                }
                stride = sign * amount;
            }
            items.append(items.count, verb, number, stride);
            return true;
        }

        /** Reads a number of one or two digits, or answers -1 where a character is not allowed. */
        private int readNumber(int least, int greatest) {
            int number = digitOf(next());
            if (number < 0 || (number == 0 && least > 0)) {
                return -1;
            }
            at++;
            int second = digitOf(next());
            if (number > 0 && second >= 0 && 10 * number + second <= greatest) {
                number = 10 * number + second;
                at++;
            }
            return number < least ? -1 : number;
        }

        private static int digitOf(char sign) {
            return sign >= '0' && sign <= '9' ? sign - '0' : -1;
        }

        private boolean take(char sign) {
            if (next() != sign) {
                return false;
            }
            at++;
            return true;
        }

        /** The next character, or character 0, which is allowed nowhere, where the text ends. */
        private char next() {
            return at >= 0 && at < size && at < signs.length ? signs[at] : (char) 0;
        }
    }
}
