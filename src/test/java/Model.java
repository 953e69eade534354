import java.util.ArrayDeque;
import java.util.ArrayList;
import java.util.Deque;
import java.util.List;

/**
 * The document once more, in its plainest form and without regard to speed: an object per machine,
 * all stops asked at each turn, each state saved as a copy.
 */
final class Model {
    private static final class Machine {
        int slow;
        int fast;
        int low;
        int high = 40;
        int capacity;
        int inBuffer;
        boolean holds;
        int rest;
        boolean runsFast = true;
        int latest;
        int[] counts = new int[6];
        long sumOfFills;

        Machine(int slow, int fast, int capacity) {
            this.slow = slow;
            this.fast = fast;
            this.capacity = capacity;
        }

        Machine sameSettings() {
            Machine m = new Machine(slow, fast, capacity);
            m.low = low;
            m.high = high;
            return m;
        }

        Machine copy() {
            Machine m = sameSettings();
            m.inBuffer = inBuffer;
            m.holds = holds;
            m.rest = rest;
            m.runsFast = runsFast;
            m.latest = latest;
            m.counts = counts.clone();
            m.sumOfFills = sumOfFills;
            return m;
        }

        int[] values() {
            return new int[] {slow, fast, low, high, capacity, inBuffer, holds ? rest : -1,
                    runsFast ? 1 : 0, latest, counts[0], counts[1], counts[2], counts[3], counts[4], counts[5]};
        }

        int cycle() {
            return runsFast ? fast : slow;
        }
    }

    private static final class State {
        List<Machine> machines = new ArrayList<>();
        List<int[]> stops = new ArrayList<>();
        int tick;
        int output;

        State copy() {
            State s = anew();
            s.machines.clear();
            machines.forEach(m -> s.machines.add(m.copy()));
            s.tick = tick;
            s.output = output;
            return s;
        }

        State anew() {
            State s = new State();
            machines.forEach(m -> s.machines.add(m.sameSettings()));
            s.stops.addAll(stops);
            return s;
        }

        boolean down(int machine, int t) {
            return stops.stream().anyMatch(s -> s[0] == machine && s[1] <= t && s[1] + s[2] > t);
        }

        void pass() {
            tick++;
            for (int m = machines.size() - 1; m >= 0; m--) {
                turn(m);
            }
            for (int m = 0; m < machines.size(); m++) {
                Machine x = machines.get(m);
                x.sumOfFills += x.inBuffer;
                if (m < machines.size() - 1 && x.inBuffer >= x.capacity) {
                    x.counts[5]++;
                }
            }
        }

        private void turn(int m) {
            Machine x = machines.get(m);
            boolean last = m == machines.size() - 1;
            if (last) {
                x.runsFast = true;
            } else if (x.inBuffer <= x.low) {
                x.runsFast = true;
            } else if (x.inBuffer >= x.high) {
                x.runsFast = false;
            }
            if (down(m, tick)) {
                x.latest = 4;
                x.counts[3]++;
                return;
            }
            if (x.holds && x.rest == 0) {
                leaveIfRoom(m);
            }
            if (!x.holds) {
                if (m == 0) {
                    x.holds = true;
                    x.rest = x.cycle();
                } else if (machines.get(m - 1).inBuffer > 0) {
                    machines.get(m - 1).inBuffer--;
                    x.holds = true;
                    x.rest = x.cycle();
                }
            }
            if (x.holds && x.rest > 0) {
                x.rest--;
                x.latest = 1;
                x.counts[0]++;
                if (x.rest == 0) {
                    leaveIfRoom(m);
                }
                return;
            }
            x.latest = x.holds ? 3 : 2;
            x.counts[x.holds ? 2 : 1]++;
        }

        private void leaveIfRoom(int m) {
            Machine x = machines.get(m);
            if (m == machines.size() - 1) {
                output++;
            } else {
                Machine next = machines.get(m + 1);
                if (x.inBuffer == 0 && !next.holds && !down(m + 1, tick)) {
                    next.holds = true;
                    next.rest = next.cycle();
                } else if (x.inBuffer < x.capacity) {
                    x.inBuffer++;
                } else {
                    return;
                }
            }
            x.holds = false;
            x.counts[4]++;
        }
    }

    private State now = new State();
    private final Deque<State> saved = new ArrayDeque<>();
    private final StringBuilder text = new StringBuilder();

    private void save() {
        saved.addLast(now.copy());
        if (saved.size() > 4) {
            saved.removeFirst();
        }
    }

    private Machine at(int machine) {
        if (machine < 0 || machine >= now.machines.size()) {
            throw new IndexOutOfBoundsException();
        }
        return now.machines.get(machine);
    }

    private static void argue(boolean right) {
        if (!right) {
            throw new IllegalArgumentException();
        }
    }

    private static void state(boolean right) {
        if (!right) {
            throw new IllegalStateException();
        }
    }

    private static void within(int value, int least, int most) {
        argue(value >= least && value <= most);
    }

    int addMachine(int slow, int fast, int capacity) {
        within(slow, 1, 20);
        within(fast, 1, slow);
        within(capacity, 0, 40);
        state(now.machines.size() < 8 && now.tick == 0);
        save();
        now.machines.add(new Machine(slow, fast, capacity));
        return now.machines.size() - 1;
    }

    int setMachine(int machine, int slow, int fast, int low, int high) {
        Machine m = at(machine);
        within(slow, 1, 20);
        within(fast, 1, slow);
        within(low, 0, 40);
        within(high, low, 40);
        save();
        int previous = m.fast;
        m.slow = slow;
        m.fast = fast;
        m.low = low;
        m.high = high;
        return previous;
    }

    int setCapacity(int machine, int capacity) {
        Machine m = at(machine);
        within(capacity, 0, 40);
        save();
        int previous = m.capacity;
        m.capacity = capacity;
        return previous;
    }

    int addStop(int machine, int first, int duration) {
        at(machine);
        within(first, now.tick + 1, 10000);
        within(duration, 1, 200);
        state(now.stops.size() < 40);
        save();
        now.stops.add(new int[] {machine, first, duration});
        return now.stops.size();
    }

    int addRandomStops(int machine, int seed, int up, int down, int number) {
        at(machine);
        within(seed, 0, 999999);
        within(up, 1, 500);
        within(down, 1, 100);
        within(number, 1, 40);
        state(now.stops.size() + number <= 40);
        save();
        long s = seed;
        long e = now.tick;
        for (int k = 0; k < number; k++) {
            s = (1103515245L * s + 12345) & 0x7fffffffL;
            long first = e + 1 + (s >> 16) % (2 * up);
            s = (1103515245L * s + 12345) & 0x7fffffffL;
            long duration = 1 + (s >> 16) % (2 * down);
            if (first > 10000) {
                return now.stops.size();
            }
            now.stops.add(new int[] {machine, (int) first, (int) duration});
            e = first + duration - 1;
        }
        return now.stops.size();
    }

    int clearStops() {
        save();
        int before = now.stops.size();
        now.stops.removeIf(s -> s[1] > now.tick);
        return before - now.stops.size();
    }

    int size(boolean stops) {
        return stops ? now.stops.size() : now.machines.size();
    }

    int stop(int stop, int what) {
        if (stop < 0 || stop >= now.stops.size()) {
            throw new IndexOutOfBoundsException();
        }
        within(what, 0, 2);
        return now.stops.get(stop)[what];
    }

    int run(int ticks) {
        within(ticks, 0, 2000);
        state(!now.machines.isEmpty() && now.tick + ticks <= 10000);
        save();
        int before = now.output;
        for (int k = 0; k < ticks; k++) {
            now.pass();
        }
        return now.output - before;
    }

    int restart() {
        save();
        int previous = now.tick;
        now = now.anew();
        return previous;
    }

    int now() {
        return now.tick;
    }

    int output() {
        return now.output;
    }

    int setting(int machine, int what) {
        Machine m = at(machine);
        within(what, 0, 4);
        return m.values()[what];
    }

    int machine(int machine, int what) {
        Machine m = at(machine);
        within(what, 0, 3);
        return m.values()[5 + what];
    }

    int count(int machine, int what) {
        Machine m = at(machine);
        within(what, 0, 5);
        return m.counts[what];
    }

    double meanFill(int machine) {
        Machine m = at(machine);
        return now.tick == 0 ? 0.0 : (double) m.sumOfFills / (double) now.tick;
    }

    int inside() {
        return now.machines.stream().mapToInt(m -> m.inBuffer + (m.holds ? 1 : 0)).sum();
    }

    private int upTicksByCycle(int machine, int ticks) {
        int up = 0;
        for (int t = 1; t <= ticks; t++) {
            up += now.down(machine, t) ? 0 : 1;
        }
        return up / now.machines.get(machine).fast;
    }

    int bound(int ticks) {
        return upTicksByCycle(slowest(ticks), ticks);
    }

    int slowest(int ticks) {
        within(ticks, 1, 10000);
        state(!now.machines.isEmpty());
        int found = 0;
        for (int m = 1; m < now.machines.size(); m++) {
            if (upTicksByCycle(m, ticks) < upTicksByCycle(found, ticks)) {
                found = m;
            }
        }
        return found;
    }

    int limiting() {
        state(!now.machines.isEmpty());
        int found = 0;
        for (int m = 1; m < now.machines.size(); m++) {
            if (idle(m) < idle(found)) {
                found = m;
            }
        }
        return found;
    }

    private int idle(int machine) {
        int[] counts = now.machines.get(machine).counts;
        return counts[1] + counts[2];
    }

    int outputWith(int machine, int capacity, int ticks) {
        at(machine);
        within(capacity, 0, 40);
        within(ticks, 1, 2000);
        State s = now.anew();
        s.machines.get(machine).capacity = capacity;
        for (int k = 0; k < ticks; k++) {
            s.pass();
        }
        return s.output;
    }

    int capacityFor(int machine, int ticks, int wanted) {
        at(machine);
        within(ticks, 1, 2000);
        within(wanted, 0, 2000);
        for (int capacity = 0; capacity <= 40; capacity++) {
            if (outputWith(machine, capacity, ticks) >= wanted) {
                return capacity;
            }
        }
        return -1;
    }

    int bestBuffer(int ticks, int places) {
        within(ticks, 1, 2000);
        within(places, 1, 40);
        state(now.machines.size() >= 2);
        int best = 0;
        int most = -1;
        for (int m = 0; m < now.machines.size() - 1; m++) {
            int made = outputWith(m, Math.min(40, now.machines.get(m).capacity + places), ticks);
            if (made > most) {
                best = m;
                most = made;
            }
        }
        return best;
    }

    int append(int value) {
        within(value, 0, 127);
        state(text.length() < 120);
        text.append((char) value);
        return text.length();
    }

    int clearText() {
        int previous = text.length();
        text.setLength(0);
        return previous;
    }

    int parse() {
        State read = new State();
        int error = read(text.toString(), read);
        if (error >= 0) {
            return -10 - error;
        }
        save();
        now = read;
        return now.machines.size();
    }

    /** Byte by byte, the end of the text being one more, of the number 0x100; answers -1 or the error. */
    private static int read(String text, State line) {
        char kind = 0;
        int[] numbers = new int[3];
        int field = 0;
        int digits = 0;
        for (int i = 0; i <= text.length(); i++) {
            char c = i < text.length() ? text.charAt(i) : 0x100;
            if (kind == 0) {
                if (c == 0x100) {
                    return -1;
                }
                if (c != 'h' && (c != 'm' || line.machines.size() == 8)) {
                    return i;
                }
                kind = c;
                field = 0;
                digits = 0;
                numbers[0] = 0;
                continue;
            }
            if (c >= '0' && c <= '9') {
                if (digits == 2) {
                    return i;
                }
                digits++;
                numbers[field] = numbers[field] * 10 + (c - '0');
                continue;
            }
            if (digits == 0) {
                return i;
            }
            if (!inRange(kind, field, numbers, line.machines.size())) {
                return i - digits;
            }
            if (c != (field == 2 ? ';' : ',')) {
                return i;
            }
            field++;
            digits = 0;
            if (field < 3) {
                numbers[field] = 0;
                continue;
            }
            if (kind == 'm') {
                line.machines.add(new Machine(numbers[0], numbers[1], numbers[2]));
            } else {
                line.machines.get(numbers[0]).low = numbers[1];
                line.machines.get(numbers[0]).high = numbers[2];
            }
            kind = 0;
        }
        return -1;
    }

    private static boolean inRange(char kind, int field, int[] numbers, int machines) {
        int value = numbers[field];
        if (kind == 'm') {
            return field == 0 ? value >= 1 && value <= 20
                    : field == 1 ? value >= 1 && value <= numbers[0] : value <= 40;
        }
        return field == 0 ? value < machines : value <= 40 && (field == 1 || value >= numbers[1]);
    }

    int undo() {
        state(!saved.isEmpty());
        now = saved.removeLast();
        return saved.size();
    }

    long digest() {
        List<Integer> values = new ArrayList<>(List.of(text.length(), now.tick, now.output, now.machines.size()));
        for (Machine m : now.machines) {
            for (int v : m.values()) {
                values.add(v);
            }
        }
        values.add(now.stops.size());
        for (int[] s : now.stops) {
            values.addAll(List.of(s[0], s[1], s[2]));
        }
        values.add(inside());
        values.add(saved.size());
        long h = 3109;
        for (int v : values) {
            h = 31 * h + v;
        }
        return h;
    }
}
