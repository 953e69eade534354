import java.util.Random;
import java.util.function.DoubleSupplier;
import java.util.function.LongSupplier;

/** Runs of drawn calls, whose answers are those of the model; the seeds are fixed. */
final class RandomCallsTest {
    private static final int CALLS = 512;

    private final Random draw;
    private final LineBuffers x = new LineBuffers();
    private final Model model = new Model();
    private final String run;
    private int calls;

    private RandomCallsTest(long seed) {
        draw = new Random(seed);
        run = "run " + seed;
    }

    static void allPromisesInShortRuns() {
        for (int seed = 0; seed < 400; seed++) {
            new RandomCallsTest(seed).play(30);
        }
    }

    static void allPromisesInLongRuns() {
        for (int seed = 1000; seed < 1040; seed++) {
            new RandomCallsTest(seed).play(900);
        }
    }

    private void play(int horizon) {
        while (calls < CALLS - 130) {
            if (calls == 0 || draw.nextInt(60) == 0) {
                makeLine();
            }
            change(horizon);
            ask();
            if (draw.nextInt(8) == 0) {
                askWhatIf(horizon);
            }
        }
    }

    private void same(String call, LongSupplier real, LongSupplier due) {
        String want = answer(due);
        String got = answer(real);
        if (!want.equals(got)) {
            throw new AssertionError(run + ", call " + calls + ": " + call + " answered " + got + ", due is " + want);
        }
        calls++;
        if (calls % 3 == 0 && !call.startsWith("digest")) {
            same("digest() after " + call, x::digest, model::digest);
        }
    }

    private static String answer(LongSupplier call) {
        try {
            return String.valueOf(call.getAsLong());
        } catch (RuntimeException e) {
            return e.getClass().getName();
        }
    }

    private static LongSupplier bits(DoubleSupplier call) {
        return () -> Double.doubleToLongBits(call.getAsDouble());
    }

    /** Most numbers lie in the range; the others lie beside it or far away. */
    private int near(int least, int most) {
        int kind = draw.nextInt(60);
        if (kind == 0) {
            return least - 1;
        }
        if (kind == 1) {
            return most + 1;
        }
        if (kind == 2) {
            return draw.nextBoolean() ? Integer.MIN_VALUE : Integer.MAX_VALUE;
        }
        if (kind < 8) {
            return kind % 2 == 0 ? least : most;
        }
        return least + draw.nextInt(Math.max(1, most - least + 1));
    }

    private int cycle() {
        return draw.nextInt(3) == 0 ? near(1, 20) : near(1, 4);
    }

    private int places() {
        return draw.nextInt(3) == 0 ? near(0, 40) : near(0, 5);
    }

    private int aMachine() {
        return near(0, model.size(false) - 1);
    }

    private void makeLine() {
        if (draw.nextBoolean()) {
            readLine();
            return;
        }
        if (draw.nextBoolean()) {
            same("restart()", x::restart, model::restart);
        }
        int machines = 1 + draw.nextInt(draw.nextInt(5) == 0 ? 9 : 4);
        for (int k = 0; k < machines; k++) {
            int slow = cycle();
            int fast = draw.nextInt(20) == 0 ? cycle() : near(1, Math.max(1, Math.min(slow, 20)));
            int capacity = places();
            same("addMachine(" + slow + ", " + fast + ", " + capacity + ")",
                    () -> x.addMachine(slow, fast, capacity), () -> model.addMachine(slow, fast, capacity));
        }
    }

    private void readLine() {
        same("clearText()", x::clearText, model::clearText);
        StringBuilder text = new StringBuilder();
        int items = draw.nextInt(draw.nextInt(6) == 0 ? 11 : 5);
        for (int k = 0; k < items; k++) {
            if (k > 0 && draw.nextInt(3) == 0) {
                int low = draw.nextInt(6);
                text.append("h0").append(draw.nextInt(2)).append(',').append(low).append(',')
                        .append(low + draw.nextInt(5)).append(';');
            } else {
                int slow = 1 + draw.nextInt(draw.nextInt(4) == 0 ? 20 : 4);
                text.append('m').append(slow).append(',').append(1 + draw.nextInt(slow)).append(',')
                        .append(draw.nextInt(draw.nextInt(4) == 0 ? 41 : 6)).append(';');
            }
        }
        if (draw.nextInt(3) == 0 && text.length() > 0) {
            spoil(text);
        }
        for (int k = 0; k < text.length(); k++) {
            int value = text.charAt(k);
            same("append(" + value + ")", () -> x.append(value), () -> model.append(value));
        }
        same("parse() of " + text, x::parse, model::parse);
    }

    private void spoil(StringBuilder text) {
        String signs = "mh0123456789,;; mh,9/:";
        int place = draw.nextInt(text.length());
        char sign = signs.charAt(draw.nextInt(signs.length()));
        switch (draw.nextInt(4)) {
            case 0 -> text.setCharAt(place, sign);
            case 1 -> text.insert(place, sign);
            case 2 -> text.deleteCharAt(place);
            default -> text.setLength(place);
        }
    }

    private void change(int horizon) {
        switch (draw.nextInt(12)) {
            case 0 -> changeMachine();
            case 1 -> changeCapacity();
            case 2 -> planStop(horizon);
            case 3 -> drawStops(horizon);
            case 4 -> {
                if (draw.nextInt(4) == 0) {
                    same("clearStops()", x::clearStops, model::clearStops);
                }
            }
            case 5 -> {
                if (draw.nextInt(4) == 0) {
                    same("restart()", x::restart, model::restart);
                }
            }
            case 6 -> same("undo()", x::undo, model::undo);
            default -> {
                int ticks = draw.nextInt(3) == 0 ? near(0, horizon) : draw.nextInt(4);
                same("run(" + ticks + ")", () -> x.run(ticks), () -> model.run(ticks));
            }
        }
    }

    private void changeMachine() {
        int m = aMachine();
        int slow = cycle();
        int fast = near(1, Math.max(1, Math.min(slow, 20)));
        int high = places();
        int low = near(0, Math.max(0, Math.min(high, 40)));
        same("setMachine(" + m + ", " + slow + ", " + fast + ", " + low + ", " + high + ")",
                () -> x.setMachine(m, slow, fast, low, high), () -> model.setMachine(m, slow, fast, low, high));
    }

    private void changeCapacity() {
        int m = aMachine();
        int capacity = places();
        same("setCapacity(" + m + ", " + capacity + ")",
                () -> x.setCapacity(m, capacity), () -> model.setCapacity(m, capacity));
    }

    private void planStop(int horizon) {
        int m = aMachine();
        int first = draw.nextInt(6) == 0 ? near(model.now() + 1, 10000)
                : model.now() + 1 + draw.nextInt(horizon);
        int duration = draw.nextInt(4) == 0 ? near(1, 200) : near(1, 6);
        same("addStop(" + m + ", " + first + ", " + duration + ")",
                () -> x.addStop(m, first, duration), () -> model.addStop(m, first, duration));
    }

    private void drawStops(int horizon) {
        int m = aMachine();
        int seed = near(0, 999999);
        int up = draw.nextInt(4) == 0 ? near(1, 500) : near(1, Math.min(500, horizon / 3));
        int down = draw.nextInt(4) == 0 ? near(1, 100) : near(1, 5);
        int number = draw.nextInt(4) == 0 ? near(1, 40) : near(1, 8);
        same("addRandomStops(" + m + ", " + seed + ", " + up + ", " + down + ", " + number + ")",
                () -> x.addRandomStops(m, seed, up, down, number),
                () -> model.addRandomStops(m, seed, up, down, number));
    }

    private void ask() {
        int m = aMachine();
        int what = near(0, 5);
        switch (draw.nextInt(12)) {
            case 0 -> same("size(true)", () -> x.size(true), () -> model.size(true));
            case 1 -> same("size(false)", () -> x.size(false), () -> model.size(false));
            case 2 -> {
                int k = near(0, model.size(true) - 1);
                same("stop(" + k + ", " + what + ")", () -> x.stop(k, what % 4), () -> model.stop(k, what % 4));
            }
            case 3 -> same("now()", x::now, model::now);
            case 4 -> same("output()", x::output, model::output);
            case 5 -> same("setting(" + m + ", " + what + ")", () -> x.setting(m, what), () -> model.setting(m, what));
            case 6 -> same("machine(" + m + ", " + what + ")", () -> x.machine(m, what), () -> model.machine(m, what));
            case 7 -> same("count(" + m + ", " + what + ")", () -> x.count(m, what), () -> model.count(m, what));
            case 8 -> same("meanFill(" + m + ")", bits(() -> x.meanFill(m)), bits(() -> model.meanFill(m)));
            case 9 -> same("inside()", x::inside, model::inside);
            case 10 -> same("limiting()", x::limiting, model::limiting);
            default -> same("digest()", x::digest, model::digest);
        }
    }

    private void askWhatIf(int horizon) {
        int m = aMachine();
        int ticks = near(1, horizon);
        int far = draw.nextInt(20) == 0 ? near(1, 10000) : ticks;
        switch (draw.nextInt(5)) {
            case 0 -> same("bound(" + far + ")", () -> x.bound(far), () -> model.bound(far));
            case 1 -> same("slowest(" + far + ")", () -> x.slowest(far), () -> model.slowest(far));
            case 2 -> {
                int capacity = places();
                same("outputWith(" + m + ", " + capacity + ", " + ticks + ")",
                        () -> x.outputWith(m, capacity, ticks), () -> model.outputWith(m, capacity, ticks));
            }
            case 3 -> {
                int wanted = draw.nextInt(4) == 0 ? near(0, 2000) : near(0, Math.max(1, ticks) / 3);
                same("capacityFor(" + m + ", " + ticks + ", " + wanted + ")",
                        () -> x.capacityFor(m, ticks, wanted), () -> model.capacityFor(m, ticks, wanted));
            }
            default -> {
                int more = places();
                same("bestBuffer(" + ticks + ", " + more + ")",
                        () -> x.bestBuffer(ticks, more), () -> model.bestBuffer(ticks, more));
            }
        }
    }
}
