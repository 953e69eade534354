/** The edges of the promises 10 to 13 and 15 to 18: a test per sentence. */
final class TimeEdges {
    private TimeEdges() {
    }

    /** A line whose machines hold bottles, and have been starved, blocked and down. */
    private static LineBuffers usedLine() {
        LineBuffers x = Expect.lineOf("m6,1,2;m9,9,2;m2,1,4;h0,0,2;");
        x.addStop(2, 12, 3);
        x.addStop(0, 20, 2);
        x.run(21);
        return x;
    }

    /** One machine at tick 10000; four states are saved then. */
    private static LineBuffers atTheEnd(String text) {
        LineBuffers x = Expect.lineOf(text);
        for (int k = 0; k < 5; k++) {
            x.run(2000);
        }
        return x;
    }

    @Sentence(of = "Promise 10", says = "`ticks`: 0 to 2000")
    static void runTakes0To2000Ticks() {
        LineBuffers x = Expect.lineOf("m1,1,1;");
        Expect.range(x, "ticks", 0, 2000, x::run);
        Expect.equal("now()", 2000, x.now());
    }

    @Sentence(of = "Promise 10", says = "Lets ticks pass. Undoable.")
    static void runOfNoTicksLeavesAllButTheSavedStates() {
        LineBuffers x = Expect.lineOf("m1,1,1;m3,3,0;");
        x.run(7);
        long before = x.digest();
        Expect.equal("run(0)", 0, x.run(0));
        Expect.equal("digest() with one saved state more", before + 1, x.digest());
        Expect.equal("undo()", 2, x.undo());
        Expect.equal("now()", 7, x.now());
    }

    @Sentence(of = "Promise 10", says = "Returns the output of these ticks.")
    static void runAnswersTheOutputOfItsTicksAlone() {
        LineBuffers x = Expect.lineOf("m3,3,0;");
        Expect.equal("run(2)", 0, x.run(2));
        Expect.equal("run(1)", 1, x.run(1));
        Expect.equal("run(2)", 0, x.run(2));
        Expect.equal("run(7)", 3, x.run(7));
        Expect.equal("output()", 4, x.output());
    }

    @Sentence(of = "Promise 10", says = "Throws `IllegalStateException` if there is no machine,")
    static void runNeedsAMachine() {
        LineBuffers x = new LineBuffers();
        Expect.thrown(Expect.STATE, x, "run(0)", () -> x.run(0));
        Expect.thrown(Expect.STATE, x, "run(2000)", () -> x.run(2000));
        x.addMachine(1, 1, 1);
        x.undo();
        Expect.thrown(Expect.STATE, x, "run(1)", () -> x.run(1));
        x.addMachine(1, 1, 1);
        Expect.equal("run(1)", 1, x.run(1));
    }

    @Sentence(of = "Promise 10", says = "or the present tick would be above 10000")
    static void runEndsAtTick10000() {
        LineBuffers x = Expect.lineOf("m1,1,1;");
        for (int k = 0; k < 4; k++) {
            x.run(2000);
        }
        x.run(1);
        Expect.thrown(Expect.STATE, x, "to 10001", () -> x.run(2000));
        Expect.equal("to 10000", 1999, x.run(1999));
        Expect.equal("now()", 10000, x.now());
        Expect.thrown(Expect.STATE, x, "to 10001", () -> x.run(1));
        Expect.equal("run(0)", 0, x.run(0));
        x.restart();
        Expect.equal("after restart()", 2000, x.run(2000));
    }

    @Sentence(of = "Promise 11", says = "Begins anew: the present tick is 0,")
    static void restartBeginsAtTick0() {
        LineBuffers x = usedLine();
        x.restart();
        Expect.equal("now()", 0, x.now());
        x.run(1);
        Expect.equal("now()", 1, x.now());
    }

    @Sentence(of = "Promise 11", says = "the machines hold no bottles and run fast,")
    static void restartEmptiesMachinesAndMakesThemFast() {
        LineBuffers x = usedLine();
        Expect.isTrue("a slow machine", x.machine(0, 2) == 0);
        Expect.isTrue("bottles", x.machine(0, 1) >= 0 && x.machine(1, 1) >= 0);
        x.restart();
        for (int m = 0; m < 3; m++) {
            Expect.equal("machine(" + m + ", 1)", LineBuffers.NONE, x.machine(m, 1));
            Expect.equal("machine(" + m + ", 2)", 1, x.machine(m, 2));
        }
    }

    @Sentence(of = "Promise 11", says = "the buffers are empty,")
    static void restartEmptiesBuffers() {
        LineBuffers x = usedLine();
        Expect.isTrue("a bottle in a buffer", x.machine(0, 0) > 0);
        x.restart();
        for (int m = 0; m < 3; m++) {
            Expect.equal("machine(" + m + ", 0)", 0, x.machine(m, 0));
        }
        Expect.equal("inside()", 0, x.inside());
    }

    @Sentence(of = "Promise 11", says = "all counts are 0,")
    static void restartClearsCounts() {
        LineBuffers x = usedLine();
        for (int what = 0; what < 6; what++) {
            Expect.isTrue("count " + what, x.count(0, what) + x.count(1, what) + x.count(2, what) > 0);
        }
        x.restart();
        for (int m = 0; m < 3; m++) {
            Expect.counts(x, m, 0, 0, 0, 0, 0, 0);
            Expect.equal("meanFill(" + m + ")", 0.0, x.meanFill(m));
        }
        Expect.equal("output()", 0, x.output());
        // A stop over all ticks to come, so that the buffers stay empty: their sums begin anew, too.
        x.addStop(0, 1, 50);
        x.run(50);
        Expect.equal("meanFill(0)", 0.0, x.meanFill(0));
    }

    @Sentence(of = "Promise 11", says = "no machine has had a turn yet;")
    static void restartForgetsTheLatestTurns() {
        LineBuffers x = usedLine();
        x.restart();
        for (int m = 0; m < 3; m++) {
            Expect.equal("machine(" + m + ", 3)", 0, x.machine(m, 3));
        }
    }

    @Sentence(of = "Promise 11", says = "the line and the stops stay. Undoable.")
    static void restartKeepsLineAndStops() {
        LineBuffers x = usedLine();
        long before = x.digest();
        x.restart();
        Expect.settings(x, 0, 6, 1, 0, 2, 2);
        Expect.settings(x, 1, 9, 9, 0, 40, 2);
        Expect.settings(x, 2, 2, 1, 0, 40, 4);
        Expect.equal("size(true)", 2, x.size(true));
        Expect.stop(x, 0, 2, 12, 3);
        Expect.stop(x, 1, 0, 20, 2);
        x.run(21);
        x.undo();
        Expect.equal("undo()", 2, x.undo());
        Expect.equal("digest() but for two saved states", before - 2, x.digest());
    }

    @Sentence(of = "Promise 11", says = "Returns the tick that was present.")
    static void restartAnswersTheTick() {
        LineBuffers none = new LineBuffers();
        Expect.equal("without machines", 0, none.restart());
        LineBuffers x = atTheEnd("m1,1,1;");
        Expect.equal("at the end", 10000, x.restart());
        Expect.equal("at tick 0", 0, x.restart());
        x.run(1);
        Expect.equal("at tick 1", 1, x.restart());
    }

    @Sentence(of = "Promise 12", says = "Returns the present tick.")
    static void nowGoesFrom0To10000() {
        LineBuffers x = Expect.lineOf("m1,1,1;");
        Expect.equal("now()", 0, x.now());
        x.run(1);
        Expect.equal("now()", 1, x.now());
        x.undo();
        Expect.equal("now()", 0, x.now());
        Expect.equal("now()", 10000, atTheEnd("m1,1,1;").now());
    }

    @Sentence(of = "Promise 13", says = "Returns the output since tick 0.")
    static void outputGoesFrom0To10000() {
        Expect.equal("without machines", 0, new LineBuffers().output());
        LineBuffers x = Expect.lineOf("m2,2,1;");
        x.run(1);
        Expect.equal("output()", 0, x.output());
        x.run(1);
        Expect.equal("output()", 1, x.output());
        x.restart();
        Expect.equal("after restart()", 0, x.output());
        Expect.equal("all ticks", 10000, atTheEnd("m1,1,1;").output());
    }

    @Sentence(of = "Promise 15", says = "`machine`: number of a machine")
    static void machineNeedsAMachine() {
        LineBuffers none = new LineBuffers();
        Expect.indexes(none, "machine", 0, m -> none.machine(m, 0));
        LineBuffers x = Expect.lineOf("m1,1,1;m1,1,1;m1,1,1;");
        Expect.indexes(x, "machine", 3, m -> x.machine(m, 3));
    }

    @Sentence(of = "Promise 15", says = "`what`: 0 the number of bottles in the buffer behind it,")
    static void machineTakesWhatFrom0To3() {
        LineBuffers x = Expect.lineOf("m1,1,1;");
        Expect.range(x, "what", 0, 3, what -> x.machine(0, what));
    }

    @Sentence(of = "Promise 15", says = "1 the rest of the bottle that it holds (NONE without one),")
    static void theRestIs0OfAFinishedBottleAndNoneWithoutOne() {
        LineBuffers x = Expect.lineOf("m2,2,0;m5,5,0;");
        Expect.equal("none", LineBuffers.NONE, x.machine(0, 1));
        x.run(1);
        Expect.equal("begun", 1, x.machine(0, 1));
        Expect.equal("none", LineBuffers.NONE, x.machine(1, 1));
        x.run(1);
        Expect.equal("gone", LineBuffers.NONE, x.machine(0, 1));
        Expect.equal("new", 5, x.machine(1, 1));
        x.run(2);
        Expect.equal("finished", 0, x.machine(0, 1));
    }

    @Sentence(of = "Promise 15", says = "2 1 if it runs fast, otherwise 0,")
    static void fastIs1AndSlow0() {
        LineBuffers x = Expect.lineOf("m2,1,9;m20,20,0;h0,0,1;");
        int[] due = {1, 1, 1, 0};
        for (int fast : due) {
            Expect.equal("tick " + x.now() + " machine(0, 2)", fast, x.machine(0, 2));
            x.run(1);
        }
    }

    @Sentence(of = "Promise 15",
            says = "3 what its latest turn was: 0 none yet, 1 working, 2 starved, 3 blocked, 4 down")
    static void theLatestTurnOfEachKind() {
        LineBuffers x = Expect.lineOf("m1,1,0;m2,2,0;");
        x.addStop(0, 4, 1);
        int[][] due = {{0, 0}, {1, 2}, {1, 1}, {1, 1}, {4, 1}};
        for (int[] latest : due) {
            Expect.equal("tick " + x.now() + " machine(0, 3)", latest[0], x.machine(0, 3));
            Expect.equal("tick " + x.now() + " machine(1, 3)", latest[1], x.machine(1, 3));
            x.run(1);
        }
        x.setMachine(1, 20, 20, 0, 40);
        x.run(3);
        Expect.equal("blocked", 3, x.machine(0, 3));
        x.undo();
        Expect.isTrue("undo() brings the latest turn back", x.machine(0, 3) != 3);
        x.run(0);
        Expect.isTrue("no tick, no turn", x.machine(0, 3) != 3);
    }

    @Sentence(of = "Promise 16", says = "`machine`: number of a machine")
    static void countNeedsAMachine() {
        LineBuffers none = new LineBuffers();
        Expect.indexes(none, "machine", 0, m -> none.count(m, 0));
        LineBuffers x = Expect.lineOf("m1,1,1;m1,1,1;");
        Expect.indexes(x, "machine", 2, m -> x.count(m, 0));
    }

    @Sentence(of = "Promise 16", says = "`what`: 0 working ticks, 1 starved ticks, 2 blocked ticks, 3 down ticks,")
    static void countTakesWhatFrom0To5() {
        LineBuffers x = Expect.lineOf("m1,1,1;");
        Expect.range(x, "what", 0, 5, what -> x.count(0, what));
    }

    @Sentence(of = "Promise 16", says = "Returns a count of a machine since tick 0.")
    static void eachTickCountsOnce() {
        LineBuffers x = usedLine();
        for (int m = 0; m < 3; m++) {
            int ticks = x.count(m, 0) + x.count(m, 1) + x.count(m, 2) + x.count(m, 3);
            Expect.equal("ticks of machine " + m, 21, ticks);
        }
        LineBuffers y = atTheEnd("m1,1,0;m20,20,0;");
        // The second machine gets a bottle in the ticks 1, 21, 41 and so on, and works from tick 2 on.
        Expect.counts(y, 0, 501, 0, 9499, 0, 500, 10000);
        Expect.counts(y, 1, 9999, 1, 0, 0, 499, 0);
    }

    @Sentence(of = "Promise 16", says = "4 bottles that have left it,")
    static void bottlesLeaveIntoTheNextMachineAndIntoTheBuffer() {
        LineBuffers x = Expect.lineOf("m1,1,1;m20,20,0;");
        int[] left = {1, 2, 2, 2};
        for (int due : left) {
            x.run(1);
            Expect.equal("tick " + x.now() + " count(0, 4)", due, x.count(0, 4));
        }
        x.run(16);
        Expect.equal("tick 20 count(1, 4)", 0, x.count(1, 4));
        x.run(1);
        Expect.equal("tick 21 count(1, 4)", 1, x.count(1, 4));
    }

    @Sentence(of = "Promise 16", says = "5 ticks at whose end the buffer behind it was full (as many bottles as its capacity,")
    static void aBufferIsFullWithAsManyBottlesAsItsCapacity() {
        LineBuffers x = Expect.lineOf("m1,1,3;m20,20,0;");
        int[] full = {0, 0, 0, 1, 2, 3};
        for (int due : full) {
            x.run(1);
            Expect.equal("tick " + x.now() + " count(0, 5)", due, x.count(0, 5));
        }
        LineBuffers y = Expect.lineOf("m1,1,0;m20,20,0;");
        y.run(1);
        Expect.equal("no bottle in no places", 1, y.count(0, 5));
    }

    @Sentence(of = "Promise 16", says = "or more; 0 for the last machine)")
    static void aBufferIsFullWithMoreBottlesThanItsCapacity() {
        LineBuffers x = Expect.lineOf("m1,1,9;m20,20,0;");
        x.run(6);
        Expect.machine(x, 0, 5);
        Expect.equal("count(0, 5)", 0, x.count(0, 5));
        x.setCapacity(0, 4);
        Expect.equal("no tick has passed", 0, x.count(0, 5));
        x.run(1);
        Expect.equal("count(0, 5)", 1, x.count(0, 5));
        x.setCapacity(0, 6);
        x.run(1);
        // The waiting bottle has made it six now.
        Expect.machine(x, 0, 6);
        Expect.equal("count(0, 5)", 2, x.count(0, 5));
        x.setCapacity(0, 40);
        x.run(1);
        Expect.equal("count(0, 5)", 2, x.count(0, 5));
    }

    @Sentence(of = "Promise 16", says = "0 for the last machine)")
    static void theLastBufferIsNeverFull() {
        LineBuffers x = Expect.lineOf("m1,1,0;m1,1,0;");
        x.run(30);
        Expect.equal("count(1, 5)", 0, x.count(1, 5));
        LineBuffers y = Expect.lineOf("m1,1,0;");
        y.run(30);
        Expect.equal("count(0, 5)", 0, y.count(0, 5));
    }

    @Sentence(of = "Promise 16", says = "5 ticks at whose end the buffer behind it was full")
    static void aBufferIsFullAtTheEndOfATick() {
        LineBuffers x = Expect.lineOf("m1,1,1;m1,1,0;");
        x.addStop(1, 1, 2);
        x.addStop(0, 4, 9);
        x.run(2);
        Expect.equal("count(0, 5)", 2, x.count(0, 5));
        x.run(1);
        // Emptied and filled again within the tick.
        Expect.machine(x, 0, 1);
        Expect.equal("count(0, 5)", 3, x.count(0, 5));
        x.run(1);
        Expect.equal("count(0, 5)", 4, x.count(0, 5));
        x.run(1);
        // Full at the beginning of the tick alone.
        Expect.machine(x, 0, 0);
        Expect.equal("count(0, 5)", 4, x.count(0, 5));
    }

    @Sentence(of = "Promise 17", says = "`machine`: number of the machine before it")
    static void meanFillNeedsAMachine() {
        LineBuffers none = new LineBuffers();
        Expect.indexes(none, "machine", 0, none::meanFill);
        LineBuffers x = Expect.lineOf("m1,1,1;m1,1,1;");
        Expect.indexes(x, "machine", 2, x::meanFill);
    }

    @Sentence(of = "Promise 17", says = "0.0 at tick 0.")
    static void theMeanFillAtTick0() {
        LineBuffers x = Expect.lineOf("m1,1,5;m20,20,0;");
        Expect.equal("new", 0.0, x.meanFill(0));
        x.run(9);
        Expect.isTrue("above 0", x.meanFill(0) > 0.0);
        x.restart();
        Expect.equal("after restart()", 0.0, x.meanFill(0));
        x.undo();
        x.undo();
        Expect.equal("after undo()", 0.0, x.meanFill(0));
        Expect.isTrue("0.0 and not -0.0", 1.0 / x.meanFill(0) > 0.0);
    }

    @Sentence(of = "Promise 17", says = "Returns the sum of the numbers of bottles at the ends of all ticks since tick 0,"
            + " converted to double, divided by the present tick, converted to double;")
    static void theMeanFillIsNotRounded() {
        LineBuffers x = Expect.lineOf("m1,1,40;m20,20,0;");
        x.run(3);
        Expect.equal("3 in 3 ticks", 1.0, x.meanFill(0));
        x.setCapacity(0, 0);
        x.run(3);
        // Two bottles stay in the buffer.
        Expect.equal("9 in 6 ticks", 1.5, x.meanFill(0));
        x.run(1);
        Expect.equal("11 in 7 ticks", 11.0 / 7.0, x.meanFill(0));
        LineBuffers y = Expect.lineOf("m1,1,40;m1,1,0;");
        y.addStop(1, 1, 1);
        for (int k = 0; k < 5; k++) {
            y.run(2000);
        }
        Expect.equal("1 in 10000 ticks", 1.0 / 10000.0, y.meanFill(0));
    }

    @Sentence(of = "Promise 18", says = "Returns the number of bottles in the line: in all machines and buffers.")
    static void insideCountsFromNoneToAFullLine() {
        Expect.equal("without machines", 0, new LineBuffers().inside());
        LineBuffers x = Expect.lineOf("m1,1,40;m1,1,40;m1,1,40;");
        Expect.equal("at tick 0", 0, x.inside());
        x.addStop(2, 1, 200);
        x.run(200);
        // Two buffers of forty, and the two machines before them.
        Expect.equal("full", 82, x.inside());
        x.run(1);
        // One is output, one taken; the last machine holds none behind its turn.
        Expect.equal("output()", 1, x.output());
        Expect.equal("inside()", 82, x.inside());
    }
}
