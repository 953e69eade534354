import java.util.function.IntConsumer;

/** What the tests expect, and lines that several of them use. */
final class Expect {
    static final Class<IllegalArgumentException> ARGUMENT = IllegalArgumentException.class;
    static final Class<IllegalStateException> STATE = IllegalStateException.class;
    static final Class<IndexOutOfBoundsException> INDEX = IndexOutOfBoundsException.class;

    private Expect() {
    }

    static void equal(String what, long want, long got) {
        if (want != got) {
            throw new AssertionError(what + " answered " + got + ", due is " + want);
        }
    }

    static void equal(String what, double want, double got) {
        if (want != got) {
            throw new AssertionError(what + " answered " + got + ", due is " + want);
        }
    }

    static void isTrue(String what, boolean holds) {
        if (!holds) {
            throw new AssertionError(what);
        }
    }

    /** A call that throws changes nothing, so the digest must stay, too. */
    static void thrown(Class<? extends RuntimeException> due, LineBuffers x, String what, Runnable call) {
        long before = x.digest();
        RuntimeException got = null;
        try {
            call.run();
        } catch (RuntimeException e) {
            got = e;
        }
        if (got == null || got.getClass() != due) {
            throw new AssertionError(what + " threw " + got + ", due is " + due.getName());
        }
        equal("digest() after " + what, before, x.digest());
    }

    /** The numbers at both ends of the range are taken; those beside it and far away are refused. */
    static void range(LineBuffers x, String what, int least, int most, IntConsumer call) {
        for (int wrong : new int[] {least - 1, most + 1, Integer.MIN_VALUE, Integer.MAX_VALUE}) {
            thrown(ARGUMENT, x, what + " " + wrong, () -> call.accept(wrong));
        }
        call.accept(least);
        call.accept(most);
    }

    /** The things from 0 to below the number are there; those beside them and far away are not. */
    static void indexes(LineBuffers x, String what, int number, IntConsumer call) {
        for (int wrong : new int[] {-1, number, Integer.MIN_VALUE, Integer.MAX_VALUE}) {
            thrown(INDEX, x, what + " " + wrong, () -> call.accept(wrong));
        }
        if (number > 0) {
            call.accept(0);
            call.accept(number - 1);
        }
    }

    static void append(LineBuffers x, String text) {
        for (char c : text.toCharArray()) {
            x.append(c);
        }
    }

    /** A new object whose line is the one that the text describes; one state is saved then. */
    static LineBuffers lineOf(String text) {
        LineBuffers x = new LineBuffers();
        append(x, text);
        isTrue("no syntax error in " + text, x.parse() >= 0);
        x.clearText();
        return x;
    }

    /** The values of setting(), in their order. */
    static void settings(LineBuffers x, int machine, int... want) {
        for (int what = 0; what < want.length; what++) {
            equal("setting(" + machine + ", " + what + ")", want[what], x.setting(machine, what));
        }
    }

    /** The values of machine(), in their order: fill, rest, fast, latest turn. */
    static void machine(LineBuffers x, int machine, int... want) {
        for (int what = 0; what < want.length; what++) {
            equal("at tick " + x.now() + " machine(" + machine + ", " + what + ")",
                    want[what], x.machine(machine, what));
        }
    }

    /** The values of count(), in their order: working, starved, blocked, down, left, full. */
    static void counts(LineBuffers x, int machine, int... want) {
        for (int what = 0; what < want.length; what++) {
            equal("at tick " + x.now() + " count(" + machine + ", " + what + ")",
                    want[what], x.count(machine, what));
        }
    }

    static void stop(LineBuffers x, int stop, int... want) {
        for (int what = 0; what < want.length; what++) {
            equal("stop(" + stop + ", " + what + ")", want[what], x.stop(stop, what));
        }
    }
}
