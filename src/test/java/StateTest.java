/** Promises 28 and 29: undo() and digest(). */
final class StateTest {
    private StateTest() {
    }

    static void promise28KeepsFourStates() {
        LineBuffers x = new LineBuffers();
        for (int m = 0; m < 6; m++) {
            x.addMachine(1, 1, m);
        }
        for (int left = 3; left >= 0; left--) {
            Expect.equal("undo()", left, x.undo());
            Expect.equal("size(false)", left + 2, x.size(false));
        }
        Expect.thrown(Expect.STATE, x, "a fifth undo()", x::undo);
        x.addMachine(1, 1, 9);
        Expect.equal("undo()", 0, x.undo());
        Expect.equal("size(false)", 2, x.size(false));
    }

    static void promise28MixesSavingAndUndoing() {
        LineBuffers x = Expect.lineOf("m1,1,0;");
        for (int capacity = 1; capacity <= 5; capacity++) {
            x.setCapacity(0, capacity);
        }
        x.undo();
        x.undo();
        Expect.equal("setting(0, 4)", 3, x.setting(0, 4));
        x.setCapacity(0, 30);
        x.setCapacity(0, 31);
        x.setCapacity(0, 32);
        int[] earlier = {31, 30, 3, 2};
        for (int k = 0; k < 4; k++) {
            Expect.equal("undo()", 3 - k, x.undo());
            Expect.equal("setting(0, 4)", earlier[k], x.setting(0, 4));
        }
        Expect.thrown(Expect.STATE, x, "undo()", x::undo);
    }

    /** After the call, one state more is saved, and undo() brings back what was there before. */
    private static void undoable(LineBuffers x, String what, Runnable call) {
        long before = x.digest();
        call.run();
        Expect.equal("undo() of " + what, 1, x.undo());
        Expect.equal("digest() after undo() of " + what, before, x.digest());
    }

    static void promise28SavesBeforeEachUndoableCall() {
        LineBuffers x = Expect.lineOf("m3,2,4;m2,1,3;");
        undoable(x, "addMachine", () -> x.addMachine(1, 1, 1));
        undoable(x, "setMachine", () -> x.setMachine(0, 3, 2, 0, 40));
        undoable(x, "setMachine", () -> x.setMachine(1, 9, 8, 7, 7));
        undoable(x, "setCapacity", () -> x.setCapacity(0, 4));
        undoable(x, "setCapacity", () -> x.setCapacity(1, 7));
        undoable(x, "addStop", () -> x.addStop(1, 1, 1));
        undoable(x, "addRandomStops", () -> x.addRandomStops(1, 1, 1, 1, 1));
        undoable(x, "clearStops", x::clearStops);
        undoable(x, "run", () -> x.run(0));
        undoable(x, "run", () -> x.run(55));
        undoable(x, "restart", x::restart);
        undoable(x, "parse", x::parse);
    }

    static void promise28SavesNothingElsewhere() {
        LineBuffers x = Expect.lineOf("m3,2,4;m2,1,3;");
        x.size(true);
        x.size(false);
        x.now();
        x.output();
        x.setting(0, 0);
        x.machine(0, 0);
        x.count(0, 0);
        x.meanFill(0);
        x.inside();
        x.bound(10);
        x.limiting();
        x.slowest(10);
        x.outputWith(0, 10, 10);
        x.capacityFor(0, 10, 3);
        x.bestBuffer(10, 1);
        x.append('y');
        x.parse();
        x.clearText();
        x.digest();
        Expect.thrown(Expect.ARGUMENT, x, "run(-1)", () -> x.run(-1));
        Expect.thrown(Expect.ARGUMENT, x, "setCapacity(0, 41)", () -> x.setCapacity(0, 41));
        Expect.equal("undo()", 0, x.undo());
    }

    static void promise28RestoresEverythingButTheText() {
        LineBuffers x = Expect.lineOf("m3,2,4;m2,1,3;h0,1,2;");
        x.addStop(1, 4, 9);
        x.run(37);
        Expect.append(x, "m1,1,1;");
        double mean = x.meanFill(0);
        long before = x.digest();
        x.parse();
        x.addMachine(4, 4, 4);
        x.addStop(0, 1, 1);
        x.run(1);
        for (int left = 3; left >= 0; left--) {
            Expect.equal("undo()", left, x.undo());
        }
        Expect.equal("meanFill(0)", mean, x.meanFill(0));
        Expect.equal("digest() but for the saved states", before - 3, x.digest());
        x.run(63);
        LineBuffers y = Expect.lineOf("m3,2,4;m2,1,3;h0,1,2;");
        y.addStop(1, 4, 9);
        y.run(100);
        Expect.counts(x, 0, y.count(0, 0), y.count(0, 1), y.count(0, 2), y.count(0, 3), y.count(0, 4));
        Expect.equal("meanFill(0)", y.meanFill(0), x.meanFill(0));
        Expect.equal("output()", y.output(), x.output());
    }

    /** The hash of the document, of what the other methods tell. */
    static long digestOf(LineBuffers x, int textLength, int saved) {
        long h = 31L * 3109 + textLength;
        h = 31 * h + x.now();
        h = 31 * h + x.output();
        h = 31 * h + x.size(false);
        for (int m = 0; m < x.size(false); m++) {
            for (int what = 0; what <= 4; what++) {
                h = 31 * h + x.setting(m, what);
            }
            for (int what = 0; what <= 3; what++) {
                h = 31 * h + x.machine(m, what);
            }
            for (int what = 0; what <= 5; what++) {
                h = 31 * h + x.count(m, what);
            }
        }
        h = 31 * h + x.size(true);
        for (int k = 0; k < x.size(true); k++) {
            for (int what = 0; what <= 2; what++) {
                h = 31 * h + x.stop(k, what);
            }
        }
        h = 31 * h + x.inside();
        return 31 * h + saved;
    }

    static void promise29HashesTheState() {
        LineBuffers x = new LineBuffers();
        // 3109 and six zeros for text, tick, output, machines, stops and inside, and one for saved states.
        long h = 3109;
        for (int k = 0; k < 7; k++) {
            h *= 31;
        }
        Expect.equal("digest() of a new object", h, x.digest());
        x.append('m');
        Expect.equal("digest() with a text", digestOf(x, 1, 0), x.digest());
        x.addMachine(3, 2, 1);
        x.addMachine(5, 4, 6);
        x.addStop(1, 7, 8);
        x.addStop(0, 9, 10);
        Expect.equal("digest() at tick 0", digestOf(x, 1, 4), x.digest());
        for (int k = 0; k < 30; k++) {
            x.run(1);
            Expect.equal("digest()", digestOf(x, 1, 4), x.digest());
        }
        x.undo();
        Expect.equal("digest() after undo()", digestOf(x, 1, 3), x.digest());
        Expect.equal("digest() changes nothing", x.digest(), x.digest());
    }
}
