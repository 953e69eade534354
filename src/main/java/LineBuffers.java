/**
 * A bottling line: machines in a row with buffers between them, passed through tick by tick.
 * README.md tells how to use it.
 */
public final class LineBuffers {
    public static final int NONE = -1;

    private static final int MAX_MACHINES = 8;
    private static final int MAX_CYCLE = 20;
    private static final int MAX_PLACES = 40;
    private static final int MAX_STOPS = 40;
    private static final int MAX_DURATION = 200;
    private static final int MAX_TICK = 10000;
    private static final int MAX_RUN = 2000;
    private static final int MAX_SAVED = 4;
    private static final int MAX_TEXT = 120;
    // Above every tick, and every number of ticks or bottles.
    private static final int ABOVE_ALL = 1000000;

    // The columns of a machine's row stand in the order in which setting(), machine(), count()
    // and digest() ask for them.
    private static final int SLOW = 0;
    private static final int FAST = 1;
    private static final int LOW = 2;
    private static final int HIGH = 3;
    private static final int CAPACITY = 4;
    private static final int FILL = 5;
    private static final int REST = 6;
    private static final int RUNS_FAST = 7;
    private static final int LATEST = 8;
    private static final int WORKING_TICKS = 9;
    private static final int STARVED_TICKS = 10;
    private static final int BLOCKED_TICKS = 11;
    private static final int LEFT = 13;
    private static final int FULL_TICKS = 14;
    private static final int FILL_SUM = 15;
    private static final int COLUMNS = 16;

    private static final int SETTINGS = 5;
    private static final int STATES = 4;
    private static final int COUNTS = 6;
    private static final int STOP_VALUES = 3;

    // What a turn was; its count stands in the column WORKING_TICKS + turn - WORKING.
    private static final int WORKING = 1;
    private static final int STARVED = 2;
    private static final int BLOCKED = 3;
    private static final int DOWN = 4;

    private final Line line = new Line();
    // A second line, so that what-if runs and the reading of a text leave the present one alone.
    private final Line trial = new Line();
    private final History history = new History();
    private final LineText text = new LineText();

    public LineBuffers() {
    }

    public int addMachine(int slow, int fast, int capacity)
            throws IllegalArgumentException, IllegalStateException {
        if (!areCycles(slow, fast) || !isIn(capacity, 0, MAX_PLACES)) {
            throw new IllegalArgumentException("a cycle or the capacity is out of range");
        }
        if (line.machines >= MAX_MACHINES || line.tick != 0) {
            throw new IllegalStateException("no machine can be added now");
        }
        history.keep(line);
        return line.join(slow, fast, capacity);
    }

    public int setMachine(int machine, int slow, int fast, int low, int high)
            throws IndexOutOfBoundsException, IllegalArgumentException {
        needMachine(machine);
        if (!areCycles(slow, fast) || !isIn(high, 0, MAX_PLACES) || !isIn(low, 0, high)) {
            throw new IllegalArgumentException("a cycle or a mark is out of range");
        }
        history.keep(line);
        int previous = line.rows[machine][FAST];
        line.rows[machine][SLOW] = slow;
        line.rows[machine][FAST] = fast;
        line.mark(machine, low, high);
        return previous;
    }

    public int setCapacity(int machine, int capacity)
            throws IndexOutOfBoundsException, IllegalArgumentException {
        needMachine(machine);
        if (!isIn(capacity, 0, MAX_PLACES)) {
            throw new IllegalArgumentException("the capacity is out of range");
        }
        history.keep(line);
        int previous = line.rows[machine][CAPACITY];
        line.rows[machine][CAPACITY] = capacity;
        return previous;
    }

    public int addStop(int machine, int first, int duration)
            throws IndexOutOfBoundsException, IllegalArgumentException, IllegalStateException {
        needMachine(machine);
        if (first <= line.tick || first > MAX_TICK || !isIn(duration, 1, MAX_DURATION)) {
            throw new IllegalArgumentException("the first tick or the duration is out of range");
        }
        if (line.stops.planned >= MAX_STOPS) {
            throw new IllegalStateException("no more stops can be planned");
        }
        history.keep(line);
        line.stops.plan(machine, first, duration);
        return line.stops.planned;
    }

    public int addRandomStops(int machine, int seed, int up, int down, int number)
            throws IndexOutOfBoundsException, IllegalArgumentException, IllegalStateException {
        needMachine(machine);
        if (!isIn(seed, 0, 999999) || !isIn(up, 1, 500) || !isIn(down, 1, 100)
                || !isIn(number, 1, MAX_STOPS)) {
            throw new IllegalArgumentException("seed, up, down or number is out of range");
        }
        if (line.stops.planned + number > MAX_STOPS) {
            throw new IllegalStateException("so many stops cannot be planned");
        }
        history.keep(line);
        Draws draws = new Draws(seed);
        int end = line.tick;
        for (int k = 0; k < number; k++) {
            int first = end + 1 + draws.drawBelow(2 * up);
            int duration = 1 + draws.drawBelow(2 * down);
            if (first > MAX_TICK) {
                break;
            }
            line.stops.plan(machine, first, duration);
            end = first + duration - 1;
        }
        return line.stops.planned;
    }

    public int clearStops() {
        history.keep(line);
        return line.stops.dropAfter(line.tick);
    }

    public int size(boolean stops) {
        return stops ? line.stops.planned : line.machines;
    }

    public int stop(int stop, int what) throws IndexOutOfBoundsException, IllegalArgumentException {
        if (stop < 0 || stop >= line.stops.planned) {
            throw new IndexOutOfBoundsException("there is no such stop");
        }
        needWhat(what, STOP_VALUES);
        return line.stops.value(stop, what);
    }

    public int run(int ticks) throws IllegalArgumentException, IllegalStateException {
        if (!isIn(ticks, 0, MAX_RUN)) {
            throw new IllegalArgumentException("ticks is out of range");
        }
        needMachines(1);
        if (line.tick + ticks > MAX_TICK) {
            throw new IllegalStateException("the present tick would be too high");
        }
        history.keep(line);
        int before = line.bottlesOut();
        line.pass(ticks);
        return line.bottlesOut() - before;
    }

    public int restart() {
        history.keep(line);
        int previous = line.tick;
        line.beginAnew();
        return previous;
    }

    public int now() {
        return line.tick;
    }

    public int output() {
        return line.bottlesOut();
    }

    public int setting(int machine, int what)
            throws IndexOutOfBoundsException, IllegalArgumentException {
        needMachine(machine);
        needWhat(what, SETTINGS);
        return line.rows[machine][SLOW + what];
    }

    public int machine(int machine, int what)
            throws IndexOutOfBoundsException, IllegalArgumentException {
        needMachine(machine);
        needWhat(what, STATES);
        return line.rows[machine][FILL + what];
    }

    public int count(int machine, int what)
            throws IndexOutOfBoundsException, IllegalArgumentException {
        needMachine(machine);
        needWhat(what, COUNTS);
        return line.rows[machine][WORKING_TICKS + what];
    }

    public double meanFill(int machine) throws IndexOutOfBoundsException {
        needMachine(machine);
        if (line.tick == 0) {
            return 0.0;
        }
        return (double) line.rows[machine][FILL_SUM] / (double) line.tick;
    }

    public int inside() {
        return line.bottlesInside();
    }

    public int bound(int ticks) throws IllegalArgumentException, IllegalStateException {
        needHorizon(ticks, MAX_TICK);
        needMachines(1);
        return line.mostBottles(line.findSlowest(ticks), ticks);
    }

    public int limiting() throws IllegalStateException {
        needMachines(1);
        return line.findLimiting();
    }

    public int slowest(int ticks) throws IllegalArgumentException, IllegalStateException {
        needHorizon(ticks, MAX_TICK);
        needMachines(1);
        return line.findSlowest(ticks);
    }

    public int outputWith(int machine, int capacity, int ticks)
            throws IndexOutOfBoundsException, IllegalArgumentException {
        needMachine(machine);
        if (!isIn(capacity, 0, MAX_PLACES)) {
            throw new IllegalArgumentException("the capacity is out of range");
        }
        needHorizon(ticks, MAX_RUN);
        return tryCapacity(machine, capacity, ticks);
    }

    public int capacityFor(int machine, int ticks, int wanted)
            throws IndexOutOfBoundsException, IllegalArgumentException {
        needMachine(machine);
        needHorizon(ticks, MAX_RUN);
        if (!isIn(wanted, 0, MAX_RUN)) {
            throw new IllegalArgumentException("wanted is out of range");
        }
        // No capacity takes the line above its bound.
        if (line.mostBottles(line.findSlowest(ticks), ticks) < wanted) {
            return NONE;
        }
        for (int capacity = 0; capacity <= MAX_PLACES; capacity++) {
            if (tryCapacity(machine, capacity, ticks) >= wanted) {
                return capacity;
            }
            // A machine that is refused a place leaves its buffer full at the end of that tick;
            // where no tick ended so, more places change nothing.
            if (trial.rows[machine][FULL_TICKS] == 0) {
                return NONE;
            }
        }
        return NONE;
    }

    public int bestBuffer(int ticks, int places)
            throws IllegalArgumentException, IllegalStateException {
        needHorizon(ticks, MAX_RUN);
        if (!isIn(places, 1, MAX_PLACES)) {
            throw new IllegalArgumentException("places is out of range");
        }
        needMachines(2);
        int best = 0;
        int most = NONE;
        for (int m = 0; m < line.machines - 1; m++) {
            int capacity = Math.min(line.rows[m][CAPACITY] + places, MAX_PLACES);
            int made = tryCapacity(m, capacity, ticks);
            if (made > most) {
                most = made;
                best = m;
            }
        }
        return best;
    }

    public int append(int value) throws IllegalArgumentException, IllegalStateException {
        if (!isIn(value, 0, 127)) {
            throw new IllegalArgumentException("value is no byte of a text");
        }
        if (text.length >= MAX_TEXT) {
            throw new IllegalStateException("the text is full");
        }
        text.put(value);
        return text.length;
    }

    public int clearText() {
        int previous = text.length;
        text.length = 0;
        return previous;
    }

    public int parse() {
        int error = text.readInto(trial);
        if (error != NONE) {
            return -10 - error;
        }
        history.keep(line);
        Line.copy(trial, line);
        return line.machines;
    }

    public int undo() throws IllegalStateException {
        if (history.saved == 0) {
            throw new IllegalStateException("there is no saved state");
        }
        history.giveBack(line);
        return history.saved;
    }

    public long digest() {
        long h = 3109;
        h = 31 * h + text.length;
        h = line.mixInto(h);
        h = line.stops.mixInto(h);
        h = 31 * h + line.bottlesInside();
        return 31 * h + history.saved;
    }

    private static boolean isIn(int value, int least, int most) {
        return value >= least && value <= most;
    }

    private static boolean areCycles(int slow, int fast) {
        return isIn(slow, 1, MAX_CYCLE) && isIn(fast, 1, slow);
    }

    private void needMachine(int machine) {
        if (machine < 0 || machine >= line.machines) {
            throw new IndexOutOfBoundsException("there is no such machine");
        }
    }

    private void needMachines(int least) {
        if (line.machines < least) {
            throw new IllegalStateException("there are too few machines");
        }
    }

    private static void needWhat(int what, int values) {
        if (what < 0 || what >= values) {
            throw new IllegalArgumentException("what is out of range");
        }
    }

    private static void needHorizon(int ticks, int most) {
        if (!isIn(ticks, 1, most)) {
            throw new IllegalArgumentException("ticks is out of range");
        }
    }

    /** The output that the line would have; the trial line is left as it is then. */
    private int tryCapacity(int machine, int capacity, int ticks) {
        Line.copy(line, trial);
        trial.beginAnew();
        trial.rows[machine][CAPACITY] = capacity;
        trial.pass(ticks);
        return trial.bottlesOut();
    }

    /** The planned stops, in the order in which they were planned. */
    private static final class Stops {
        private final int[] machineOf = new int[MAX_STOPS];
        private final int[] firstOf = new int[MAX_STOPS];
        private final int[] durationOf = new int[MAX_STOPS];
        private int planned;
        // A bit for each machine that was down at the tick of the latest look.
        private int downBits;

        static void copy(Stops from, Stops to) {
            int planned = from.planned;
            System.arraycopy(from.machineOf, 0, to.machineOf, 0, planned);
            System.arraycopy(from.firstOf, 0, to.firstOf, 0, planned);
            System.arraycopy(from.durationOf, 0, to.durationOf, 0, planned);
            to.planned = planned;
        }

        void plan(int machine, int first, int duration) {
            if (planned < MAX_STOPS) {
                machineOf[planned] = machine;
                firstOf[planned] = first;
                durationOf[planned] = duration;
                planned++;
            }
        }

        int dropAfter(int tick) {
            int before = planned;
            planned = 0;
            for (int k = 0; k < before; k++) {
                if (firstOf[k] <= tick) {
                    plan(machineOf[k], firstOf[k], durationOf[k]);
                }
            }
            return before - planned;
        }

        int value(int stop, int what) {
            if (what == 0) {
                return machineOf[stop];
            }
            return what == 1 ? firstOf[stop] : durationOf[stop];
        }

        /** Finds the machines that are down at a tick; answers the next tick at which that may change. */
        int lookAt(int tick) {
            int change = ABOVE_ALL;
            downBits = 0;
            for (int k = 0; k < planned; k++) {
                int first = firstOf[k];
                int end = first + durationOf[k];
                if (first > tick) {
                    change = Math.min(change, first);
                } else if (end > tick) {
                    downBits |= 1 << machineOf[k];
                    change = Math.min(change, end);
                }
            }
            return change;
        }

        boolean isDown(int machine) {
            return (downBits >> machine & 1) == 1;
        }

        long mixInto(long hash) {
            long h = 31 * hash + planned;
            for (int k = 0; k < planned; k++) {
                for (int what = 0; what < STOP_VALUES; what++) {
                    h = 31 * h + value(k, what);
                }
            }
            return h;
        }
    }

    /** Everything that undo() brings back: the machines, their buffers and stops, and the tick. */
    private static final class Line {
        private final int[][] rows = new int[MAX_MACHINES][COLUMNS];
        private final Stops stops = new Stops();
        private int machines;
        private int tick;

        static void copy(Line from, Line to) {
            if (from == null || to == null) {
                return;
            }
            for (int m = 0; m < from.machines; m++) {
                System.arraycopy(from.rows[m], 0, to.rows[m], 0, COLUMNS);
            }
            Stops.copy(from.stops, to.stops);
            to.machines = from.machines;
            to.tick = from.tick;
        }

        void takeApart() {
            machines = 0;
            tick = 0;
            stops.planned = 0;
        }

        int join(int slow, int fast, int capacity) {
            if (machines >= MAX_MACHINES) {
                return NONE;
            }
            int[] row = rows[machines];
            row[SLOW] = slow;
            row[FAST] = fast;
            row[LOW] = 0;
            row[HIGH] = MAX_PLACES;
            row[CAPACITY] = capacity;
            empty(row);
            machines++;
            return machines - 1;
        }

        void mark(int machine, int low, int high) {
            if (machine >= 0 && machine < machines) {
                rows[machine][LOW] = low;
                rows[machine][HIGH] = high;
            }
        }

        void beginAnew() {
            tick = 0;
            for (int m = 0; m < machines; m++) {
                empty(rows[m]);
            }
        }

        private static void empty(int[] row) {
            for (int column = FILL; column < COLUMNS; column++) {
                row[column] = 0;
            }
            row[REST] = NONE;
            row[RUNS_FAST] = 1;
        }

        void pass(int ticks) {
            int change = tick + 1;
            for (int k = 0; k < ticks; k++) {
                tick++;
                if (tick >= change) {
                    change = stops.lookAt(tick);
                }
                for (int m = machines - 1; m >= 0; m--) {
                    takeTurn(m);
                }
                countFills();
            }
        }

        private void takeTurn(int m) {
            int[] row = rows[m];
            chooseSpeed(m);
            if (stops.isDown(m)) {
                noteTurn(row, DOWN);
                return;
            }
            if (row[REST] == 0) {
                release(m);
            }
            if (row[REST] == NONE) {
                takeBottle(m);
            }
            if (row[REST] > 0) {
                row[REST]--;
                noteTurn(row, WORKING);
                if (row[REST] == 0) {
                    release(m);
                }
            } else {
                noteTurn(row, row[REST] == 0 ? BLOCKED : STARVED);
            }
        }

        private void chooseSpeed(int m) {
            int[] row = rows[m];
            if (m == machines - 1 || row[FILL] <= row[LOW]) {
                row[RUNS_FAST] = 1;
            } else if (row[FILL] >= row[HIGH]) {
                row[RUNS_FAST] = 0;
            }
        }

        private static void noteTurn(int[] row, int turn) {
            row[LATEST] = turn;
            row[WORKING_TICKS + turn - WORKING]++;
        }

        /** Lets a finished bottle leave its machine, if there is room behind it. */
        private void release(int m) {
            int[] row = rows[m];
            if (m < machines - 1) {
                int[] next = rows[m + 1];
                if (row[FILL] == 0 && next[REST] == NONE && !stops.isDown(m + 1)) {
                    next[REST] = presentCycle(next);
                } else if (row[FILL] < row[CAPACITY]) {
                    row[FILL]++;
                } else {
                    return;
                }
            }
            row[REST] = NONE;
            row[LEFT]++;
        }

        private void takeBottle(int m) {
            int[] row = rows[m];
            if (m > 0) {
                int[] before = rows[m - 1];
                if (before[FILL] == 0) {
                    return;
                }
                before[FILL]--;
            }
            row[REST] = presentCycle(row);
        }

        private static int presentCycle(int[] row) {
            return row[RUNS_FAST] == 1 ? row[FAST] : row[SLOW];
        }

        private void countFills() {
            for (int m = 0; m < machines - 1; m++) {
                int[] row = rows[m];
                row[FILL_SUM] += row[FILL];
                if (row[FILL] >= row[CAPACITY]) {
                    row[FULL_TICKS]++;
                }
            }
        }

        /** The bottles that have left the last machine: no other one can have been last since tick 0. */
        int bottlesOut() {
            return machines == 0 ? 0 : rows[machines - 1][LEFT];
        }

        int bottlesInside() {
            int bottles = 0;
            for (int m = 0; m < machines; m++) {
                bottles += rows[m][FILL] + (rows[m][REST] == NONE ? 0 : 1);
            }
            return bottles;
        }

        int findLimiting() {
            int found = 0;
            int fewest = ABOVE_ALL;
            for (int m = 0; m < machines; m++) {
                int idle = rows[m][STARVED_TICKS] + rows[m][BLOCKED_TICKS];
                if (idle < fewest) {
                    fewest = idle;
                    found = m;
                }
            }
            return found;
        }

        int findSlowest(int ticks) {
            int found = 0;
            int fewest = ABOVE_ALL;
            for (int m = 0; m < machines; m++) {
                int most = mostBottles(m, ticks);
                if (most < fewest) {
                    fewest = most;
                    found = m;
                }
            }
            return found;
        }

        int mostBottles(int m, int ticks) {
            int cycle = rows[m][FAST];
            return cycle < 1 ? 0 : upTicks(m, ticks) / cycle;
        }

        /** Goes from change to change: each stop brings two at most, and one stretch follows the last. */
        private int upTicks(int m, int ticks) {
            int up = 0;
            int from = 1;
            for (int k = 0; k <= 2 * MAX_STOPS && from <= ticks; k++) {
                int change = Math.min(stops.lookAt(from), ticks + 1);
                if (!stops.isDown(m)) {
                    up += change - from;
                }
                from = change;
            }
            return up;
        }

        long mixInto(long hash) {
            long h = 31 * hash + tick;
            h = 31 * h + bottlesOut();
            h = 31 * h + machines;
            for (int m = 0; m < machines; m++) {
                for (int column = 0; column < FILL_SUM; column++) {
                    h = 31 * h + rows[m][column];
                }
            }
            return h;
        }
    }

    /** The saved states, in a ring whose places are used again, so that saving makes no objects. */
    private static final class History {
        private final Line[] places = new Line[MAX_SAVED];
        private int newest;
        private int saved;

        History() {
            for (int k = 0; k < MAX_SAVED; k++) {
                places[k] = new Line();
            }
        }

        void keep(Line line) {
            newest = (newest + 1) % MAX_SAVED;
            Line.copy(line, places[newest]);
            if (saved < MAX_SAVED) {
                saved++;
            }
        }

        void giveBack(Line line) {
            if (saved == 0) {
                return;
            }
            Line.copy(places[newest], line);
            newest = (newest + MAX_SAVED - 1) % MAX_SAVED;
            saved--;
        }
    }

    /** The draws of random stops. */
    private static final class Draws {
        private long state;

        Draws(int seed) {
            state = seed;
        }

        int drawBelow(int limit) {
            state = (1103515245L * state + 12345L) % 2147483648L;
            return limit < 1 ? 0 : (int) (state / 65536L % limit);
        }
    }

    /** The line text, and what reads it into a line. */
    private static final class LineText {
        private final int[] bytes = new int[MAX_TEXT];
        private int length;
        // While the text is read: the byte that comes next, and the error position, NONE without one.
        private int at;
        private int error;

        void put(int value) {
            if (length < MAX_TEXT) {
                bytes[length] = value;
                length++;
            }
        }

        /** Answers the syntax error position; only without one (NONE) is the line of use. */
        int readInto(Line line) {
            at = 0;
            error = NONE;
            line.takeApart();
            for (int items = 0; items < MAX_TEXT && at < length && error == NONE; items++) {
                readItem(line);
            }
            return error;
        }

        private void readItem(Line line) {
            int kind = byteAt(at);
            if (kind == 'm' && line.machines < MAX_MACHINES) {
                at++;
                readMachine(line);
            } else if (kind == 'h') {
                at++;
                readMarks(line);
            } else {
                error = at;
            }
        }

        private void readMachine(Line line) {
            int slow = readNumber(1, MAX_CYCLE, ',');
            int fast = readNumber(1, slow, ',');
            int capacity = readNumber(0, MAX_PLACES, ';');
            if (error == NONE) {
                line.join(slow, fast, capacity);
            }
        }

        private void readMarks(Line line) {
            int machine = readNumber(0, line.machines - 1, ',');
            int low = readNumber(0, MAX_PLACES, ',');
            int high = readNumber(low, MAX_PLACES, ';');
            if (error == NONE) {
                line.mark(machine, low, high);
            }
        }

        /** Reads a number and the sign that ends it, but nothing behind an error. */
        private int readNumber(int least, int most, char ending) {
            if (error != NONE) {
                return NONE;
            }
            int start = at;
            int value = 0;
            for (int digits = 0; digits < 2 && isDigit(byteAt(at)); digits++) {
                value = 10 * value + byteAt(at) - '0';
                at++;
            }
            int following = byteAt(at);
            if (at == start || isDigit(following)) {
                error = at;
            } else if (!isIn(value, least, most)) {
                error = start;
            } else if (following != ending) {
                error = at;
            } else {
                at++;
            }
            return value;
        }

        /** Answers NONE, which is no byte, behind the end of the text. */
        private int byteAt(int index) {
            return index < 0 || index >= length ? NONE : bytes[index];
        }

        private static boolean isDigit(int value) {
            return isIn(value, '0', '9');
        }
    }
}
