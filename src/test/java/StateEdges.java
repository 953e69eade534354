import java.math.BigInteger;

/** The edges of the description's parts Undo and Exceptions, and of the promises 28 and 29: a test per sentence. */
final class StateEdges {
    private StateEdges() {
    }

    /** A line in use, with three saved states, and a text. */
    private static LineBuffers usedLine() {
        LineBuffers x = Expect.lineOf("m3,2,2;m4,1,5;m2,2,0;h1,0,1;");
        x.addStop(1, 5, 6);
        x.run(17);
        Expect.append(x, "m1,1,1;");
        return x;
    }

    /** One saved state more, and undo() brings back what was there before. */
    private static void undoable(LineBuffers x, String what, Runnable call) {
        long before = x.digest();
        call.run();
        Expect.equal("undo() of " + what, 3, x.undo());
        Expect.equal("digest() after undo() of " + what, before, x.digest());
    }

    @Sentence(of = "Undo", says = "Each successful call of a method whose description says \"undoable\" saves the state")
    static void eachUndoableMethodSavesTheState() {
        LineBuffers x = usedLine();
        undoable(x, "setMachine", () -> x.setMachine(1, 20, 19, 1, 2));
        undoable(x, "setCapacity", () -> x.setCapacity(2, 40));
        undoable(x, "addStop", () -> x.addStop(0, 18, 1));
        undoable(x, "addRandomStops", () -> x.addRandomStops(2, 3, 4, 5, 6));
        undoable(x, "run", () -> x.run(50));
        undoable(x, "restart", x::restart);
        undoable(x, "parse", x::parse);
        LineBuffers y = Expect.lineOf("m1,1,1;");
        y.addStop(0, 1, 1);
        y.addStop(0, 2, 1);
        undoable(y, "addMachine", () -> y.addMachine(1, 1, 1));
        undoable(y, "clearStops", y::clearStops);
    }

    @Sentence(of = "Undo", says = "even if the call changes nothing;")
    static void aCallThatChangesNothingSavesTheState() {
        LineBuffers x = Expect.lineOf("m3,2,2;");
        x.run(0);
        x.run(0);
        undoable(x, "setMachine", () -> x.setMachine(0, 3, 2, 0, 40));
        undoable(x, "setCapacity", () -> x.setCapacity(0, 2));
        undoable(x, "clearStops", x::clearStops);
        undoable(x, "run(0)", () -> x.run(0));
        undoable(x, "restart", x::restart);
        Expect.append(x, "m3,2,2;");
        undoable(x, "parse", x::parse);
    }

    @Sentence(of = "Undo", says = "even if the call changes nothing;")
    static void aLineWithoutMachinesHasStatesToo() {
        LineBuffers x = new LineBuffers();
        x.clearStops();
        x.restart();
        x.parse();
        for (int left = 2; left >= 0; left--) {
            Expect.equal("undo()", left, x.undo());
        }
    }

    @Sentence(of = "Undo", says = "at most 4 states are saved,")
    static void fourStatesAtMost() {
        LineBuffers x = new LineBuffers();
        for (int saved = 1; saved <= 7; saved++) {
            x.restart();
            long h = savedAlone(Math.min(saved, 4));
            Expect.equal("digest()", h, x.digest());
        }
        for (int left = 3; left >= 0; left--) {
            Expect.equal("undo()", left, x.undo());
        }
        Expect.thrown(Expect.STATE, x, "a fifth undo()", x::undo);
    }

    /** The digest of an object in which all but the number of saved states is 0. */
    private static long savedAlone(int saved) {
        long h = 3109;
        for (int k = 0; k < 7; k++) {
            h *= 31;
        }
        return h + saved;
    }

    @Sentence(of = "Undo", says = "and the oldest is dropped first.")
    static void theOldestStateIsDropped() {
        for (int calls = 5; calls <= 12; calls++) {
            LineBuffers x = Expect.lineOf("m1,1,0;");
            for (int capacity = 1; capacity <= calls; capacity++) {
                x.setCapacity(0, capacity);
            }
            for (int back = 1; back <= 4; back++) {
                x.undo();
                Expect.equal("setting(0, 4)", calls - back, x.setting(0, 4));
            }
            Expect.thrown(Expect.STATE, x, "a fifth undo()", x::undo);
        }
    }

    @Sentence(of = "Undo", says = "and the oldest is dropped first.")
    static void statesAreSavedAnewWhereOnesWereUndone() {
        LineBuffers x = Expect.lineOf("m1,1,0;");
        for (int round = 0; round < 9; round++) {
            x.setCapacity(0, 10);
            x.setCapacity(0, 20);
            x.setCapacity(0, 30);
            x.undo();
            Expect.equal("setting(0, 4)", 20, x.setting(0, 4));
            x.setCapacity(0, 40);
            x.undo();
            Expect.equal("setting(0, 4)", 20, x.setting(0, 4));
            x.undo();
            Expect.equal("setting(0, 4)", 10, x.setting(0, 4));
        }
    }

    @Sentence(of = "Undo", says = "The saved state contains everything except the line text.")
    static void theTextIsNotRestored() {
        LineBuffers x = new LineBuffers();
        Expect.append(x, "m1,1,1;");
        x.parse();
        x.clearText();
        Expect.append(x, "m2,2,2;m");
        x.undo();
        Expect.equal("the text as it is", -18, x.parse());
        Expect.equal("clearText()", 8, x.clearText());
        x.restart();
        x.undo();
        Expect.equal("append", 1, x.append('m'));
    }

    @Sentence(of = "Undo", says = "The saved state contains everything except the line text.")
    static void everythingElseIsRestored() {
        LineBuffers x = usedLine();
        long before = x.digest();
        double first = x.meanFill(0);
        double second = x.meanFill(1);
        x.clearStops();
        x.restart();
        x.parse();
        x.addMachine(9, 9, 9);
        for (int k = 0; k < 4; k++) {
            x.undo();
        }
        // There were three saved states, and there is none now.
        Expect.equal("digest() but for the saved states", before - 3, x.digest());
        Expect.equal("meanFill(0)", first, x.meanFill(0));
        Expect.equal("meanFill(1)", second, x.meanFill(1));
        LineBuffers y = usedLine();
        y.run(83);
        x.run(83);
        Expect.equal("digest() 83 ticks later but for the saved states", y.digest() - 3, x.digest());
        Expect.equal("meanFill(1) 83 ticks later", y.meanFill(1), x.meanFill(1));
    }

    @Sentence(of = "Promise 28", says = "Restores the most recently saved state and removes it from the saved states.")
    static void undoGoesBackStateByState() {
        LineBuffers x = Expect.lineOf("m1,1,1;");
        x.run(3);
        x.run(5);
        x.run(7);
        int[] ticks = {8, 3, 0};
        for (int tick : ticks) {
            x.undo();
            Expect.equal("now()", tick, x.now());
            Expect.equal("output()", tick, x.output());
        }
        x.undo();
        Expect.equal("size(false)", 0, x.size(false));
    }

    @Sentence(of = "Promise 28", says = "Returns the number of saved states that remain.")
    static void undoAnswersFrom3To0() {
        LineBuffers x = Expect.lineOf("m1,1,1;");
        Expect.equal("of one", 0, x.undo());
        for (int k = 0; k < 9; k++) {
            x.restart();
        }
        for (int left = 3; left >= 0; left--) {
            Expect.equal("undo()", left, x.undo());
        }
    }

    @Sentence(of = "Promise 28", says = "Throws `IllegalStateException` if there is no saved state")
    static void undoNeedsASavedState() {
        LineBuffers x = new LineBuffers();
        Expect.thrown(Expect.STATE, x, "undo() of nothing", x::undo);
        Expect.append(x, "m1,1,1;");
        x.parse();
        x.undo();
        Expect.thrown(Expect.STATE, x, "undo() once more", x::undo);
        Expect.equal("parse()", 1, x.parse());
    }

    @Sentence(of = "Exceptions", says = "A call that throws an exception changes nothing.")
    static void aRefusedCallSavesNothingAndKeepsSavedStates() {
        LineBuffers x = usedLine();
        long before = x.digest();
        double mean = x.meanFill(1);
        Runnable[] calls = {
            () -> x.addMachine(1, 1, 1), () -> x.addMachine(1, 2, 1),
            () -> x.setMachine(3, 1, 1, 0, 0), () -> x.setMachine(0, 1, 1, 1, 0),
            () -> x.setCapacity(3, 1), () -> x.setCapacity(0, 41),
            () -> x.addStop(3, 18, 1), () -> x.addStop(0, 17, 1),
            () -> x.addRandomStops(3, 1, 1, 1, 1), () -> x.addRandomStops(0, 1, 1, 1, 41),
            () -> x.addRandomStops(0, 1, 1, 1, 40),
            () -> x.stop(1, 0), () -> x.stop(0, 3), () -> x.run(2001), () -> x.run(-1),
            () -> x.setting(3, 0), () -> x.setting(0, 5), () -> x.machine(3, 0), () -> x.machine(0, 4),
            () -> x.count(3, 0), () -> x.count(0, 6), () -> x.meanFill(3),
            () -> x.bound(0), () -> x.slowest(10001),
            () -> x.outputWith(3, 0, 1), () -> x.outputWith(0, 41, 1),
            () -> x.capacityFor(3, 1, 0), () -> x.capacityFor(0, 2001, 0),
            () -> x.bestBuffer(0, 1), () -> x.append(128),
        };
        for (int k = 0; k < calls.length; k++) {
            Expect.isTrue("call " + k + " throws", throwsAny(calls[k]));
            Expect.equal("digest() after call " + k, before, x.digest());
        }
        Expect.equal("meanFill(1)", mean, x.meanFill(1));
        // The text is what it was, and so are the states.
        Expect.equal("parse()", 1, x.parse());
        x.undo();
        Expect.equal("undo()", 2, x.undo());
        Expect.equal("now()", 0, x.now());
        x.undo();
        Expect.equal("size(true)", 0, x.size(true));
        x.undo();
        Expect.equal("size(false)", 0, x.size(false));
    }

    private static boolean throwsAny(Runnable call) {
        try {
            call.run();
            return false;
        } catch (RuntimeException e) {
            return true;
        }
    }

    @Sentence(of = "Exceptions", says = "If several exceptions apply, the one that is listed first is thrown.")
    static void aWrongArgumentGoesBeforeAWrongState() {
        LineBuffers x = new LineBuffers();
        Expect.thrown(Expect.ARGUMENT, x, "run", () -> x.run(2001));
        Expect.thrown(Expect.ARGUMENT, x, "bound", () -> x.bound(0));
        Expect.thrown(Expect.ARGUMENT, x, "slowest", () -> x.slowest(10001));
        Expect.thrown(Expect.ARGUMENT, x, "bestBuffer ticks", () -> x.bestBuffer(2001, 1));
        Expect.thrown(Expect.ARGUMENT, x, "bestBuffer places", () -> x.bestBuffer(1, 41));
        Expect.append(x, "m1,1,1;".repeat(8));
        x.parse();
        Expect.thrown(Expect.ARGUMENT, x, "addMachine of eight", () -> x.addMachine(1, 1, 41));
        x.run(2000);
        Expect.thrown(Expect.ARGUMENT, x, "addMachine at tick 2000", () -> x.addMachine(0, 1, 1));
        Expect.append(x, "x".repeat(64));
        Expect.thrown(Expect.ARGUMENT, x, "append", () -> x.append(-1));
        for (int k = 0; k < 4; k++) {
            x.run(2000);
        }
        Expect.thrown(Expect.ARGUMENT, x, "run at tick 10000", () -> x.run(2001));
    }

    @Sentence(of = "Exceptions", says = "If several exceptions apply, the one that is listed first is thrown.")
    static void aWrongStopGoesBeforeTooManyStops() {
        LineBuffers x = Expect.lineOf("m1,1,1;");
        x.addRandomStops(0, 5, 10, 3, 40);
        Expect.thrown(Expect.ARGUMENT, x, "addStop", () -> x.addStop(0, 0, 1));
        Expect.thrown(Expect.ARGUMENT, x, "addStop", () -> x.addStop(0, 1, 201));
        Expect.thrown(Expect.INDEX, x, "addStop", () -> x.addStop(1, 0, 201));
        Expect.thrown(Expect.INDEX, x, "addStop of full", () -> x.addStop(1, 1, 1));
        Expect.thrown(Expect.ARGUMENT, x, "addRandomStops seed", () -> x.addRandomStops(0, -1, 1, 1, 1));
        Expect.thrown(Expect.ARGUMENT, x, "addRandomStops number", () -> x.addRandomStops(0, 0, 1, 1, 41));
        Expect.thrown(Expect.INDEX, x, "addRandomStops", () -> x.addRandomStops(1, -1, 0, 0, 0));
        Expect.thrown(Expect.INDEX, x, "addRandomStops of full", () -> x.addRandomStops(1, 0, 1, 1, 1));
    }

    @Sentence(of = "Exceptions", says = "If several exceptions apply, the one that is listed first is thrown.")
    static void aMissingMachineGoesBeforeAWrongArgument() {
        LineBuffers x = new LineBuffers();
        Expect.thrown(Expect.INDEX, x, "setMachine", () -> x.setMachine(0, 0, 0, -1, -1));
        Expect.thrown(Expect.INDEX, x, "setCapacity", () -> x.setCapacity(0, 41));
        Expect.thrown(Expect.INDEX, x, "stop", () -> x.stop(0, 3));
        Expect.thrown(Expect.INDEX, x, "setting", () -> x.setting(0, 5));
        Expect.thrown(Expect.INDEX, x, "machine", () -> x.machine(0, 4));
        Expect.thrown(Expect.INDEX, x, "count", () -> x.count(0, 6));
        Expect.thrown(Expect.INDEX, x, "outputWith", () -> x.outputWith(0, 41, 0));
        Expect.thrown(Expect.INDEX, x, "capacityFor", () -> x.capacityFor(0, 0, -1));
    }

    @Sentence(of = "Promise 29", says = "Returns the hash, with the overflow of long arithmetic ignored.")
    static void theHashOverflows() {
        LineBuffers x = usedLine();
        x.addRandomStops(0, 9, 20, 20, 39);
        BigInteger h = BigInteger.valueOf(3109);
        int[] head = {7, 17, x.output(), 3};
        for (int v : head) {
            h = next(h, v);
        }
        for (int m = 0; m < 3; m++) {
            for (int what = 0; what <= 4; what++) {
                h = next(h, x.setting(m, what));
            }
            for (int what = 0; what <= 3; what++) {
                h = next(h, x.machine(m, what));
            }
            for (int what = 0; what <= 5; what++) {
                h = next(h, x.count(m, what));
            }
        }
        h = next(h, 40);
        for (int k = 0; k < 40; k++) {
            for (int what = 0; what <= 2; what++) {
                h = next(h, x.stop(k, what));
            }
        }
        h = next(next(h, x.inside()), 4);
        Expect.isTrue("it has overflowed by far", h.bitLength() > 700);
        Expect.equal("digest()", h.longValue(), x.digest());
    }

    private static BigInteger next(BigInteger h, int v) {
        return h.multiply(BigInteger.valueOf(31)).add(BigInteger.valueOf(v));
    }

    @Sentence(of = "Promise 29", says = "Start with h = 3109")
    static void theHashOfANewObject() {
        Expect.equal("digest()", savedAlone(0), new LineBuffers().digest());
        LineBuffers x = new LineBuffers();
        // Six values follow the length of the text.
        long six = 31L * 31 * 31 * 31 * 31 * 31;
        Expect.append(x, "x".repeat(120));
        Expect.equal("with a full text", savedAlone(0) + 120 * six, x.digest());
    }
}
