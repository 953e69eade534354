/** The edges of the description's part Line, and of the promises 1 to 4, 8 and 14: a test per sentence. */
final class LineEdges {
    private LineEdges() {
    }

    @Sentence(of = "Line", says = "There are at most 8 machines")
    static void eightMachinesAtMost() {
        LineBuffers x = new LineBuffers();
        for (int m = 0; m < 8; m++) {
            Expect.equal("addMachine", m, x.addMachine(1, 1, 0));
        }
        Expect.thrown(Expect.STATE, x, "the ninth", () -> x.addMachine(1, 1, 0));
        Expect.equal("size(false)", 8, x.size(false));
        // Each machine hands the bottle on in its own tick, and the eighth puts it away in tick 8.
        Expect.equal("run(7)", 0, x.run(7));
        Expect.equal("run(1)", 1, x.run(1));
    }

    @Sentence(of = "Line", says = "numbered from 0 in the order in which bottles pass them.")
    static void machinesStandInTheOrderOfBottles() {
        LineBuffers x = Expect.lineOf("m1,1,0;m1,1,0;m1,1,0;");
        int[][] rests = {{-1, 1, -1}, {-1, 1, 1}, {-1, 1, 1}};
        for (int[] rest : rests) {
            x.run(1);
            for (int m = 0; m < 3; m++) {
                Expect.equal("tick " + x.now() + " machine(" + m + ", 1)", rest[m], x.machine(m, 1));
            }
        }
        Expect.equal("output()", 1, x.output());
    }

    @Sentence(of = "Line", says = "The first one always finds new bottles;")
    static void theFirstMachineIsNeverStarved() {
        LineBuffers x = Expect.lineOf("m1,1,0;m1,1,0;");
        x.run(2000);
        Expect.counts(x, 0, 2000, 0, 0, 0, 2000, 2000);
        LineBuffers y = Expect.lineOf("m1,1,0;");
        Expect.equal("run(2000)", 2000, y.run(2000));
        Expect.equal("starved", 0, y.count(0, 1));
    }

    @Sentence(of = "Line", says = "the last one can always put its bottles away (the output).")
    static void theLastMachineIsNeverBlocked() {
        LineBuffers x = Expect.lineOf("m1,1,0;m1,1,0;");
        for (int k = 0; k < 40; k++) {
            x.run(1);
            Expect.isTrue("no finished bottle stays in the last machine", x.machine(1, 1) != 0);
        }
        Expect.equal("blocked", 0, x.count(1, 2));
        LineBuffers y = Expect.lineOf("m1,1,0;");
        for (int k = 1; k <= 40; k++) {
            Expect.equal("run(1)", 1, y.run(1));
            Expect.machine(y, 0, 0, -1, 1, 1);
        }
    }

    @Sentence(of = "Line", says = "a buffer with a capacity, 0 to 40.")
    static void aBufferOfNoPlacesTakesNothing() {
        LineBuffers x = Expect.lineOf("m1,1,0;m1,1,0;");
        x.addStop(1, 1, 9);
        for (int k = 0; k < 9; k++) {
            x.run(1);
            Expect.equal("machine(0, 0)", 0, x.machine(0, 0));
            Expect.equal("machine(0, 1)", 0, x.machine(0, 1));
        }
    }

    @Sentence(of = "Line", says = "a buffer with a capacity, 0 to 40.")
    static void aBufferOfFortyPlacesTakesForty() {
        LineBuffers x = Expect.lineOf("m1,1,40;m1,1,0;");
        x.addStop(1, 1, 200);
        x.run(39);
        Expect.machine(x, 0, 39, -1, 1, 1);
        x.run(1);
        Expect.machine(x, 0, 40, -1, 1, 1);
        x.run(1);
        // With 40 bottles the high mark is met, too.
        Expect.machine(x, 0, 40, 0, 0, 1);
        x.run(1);
        Expect.machine(x, 0, 40, 0, 0, 3);
    }

    @Sentence(of = "Line", says = "(The last machine can be named in calls about buffers, too: its capacity is kept,")
    static void theCapacityBehindTheLastMachineIsKept() {
        LineBuffers x = Expect.lineOf("m1,1,0;m1,1,0;");
        Expect.equal("setCapacity(1, 40)", 0, x.setCapacity(1, 40));
        x.run(9);
        Expect.equal("setting(1, 4)", 40, x.setting(1, 4));
        Expect.equal("setCapacity(1, 7)", 40, x.setCapacity(1, 7));
        x.restart();
        Expect.equal("setting(1, 4)", 7, x.setting(1, 4));
        // Its places are there for use once another machine stands behind it.
        x.addMachine(20, 20, 0);
        x.run(40);
        Expect.equal("machine(1, 0)", 7, x.machine(1, 0));
    }

    @Sentence(of = "Line", says = "nothing is ever in its buffer,")
    static void nothingIsInTheBufferOfTheLastMachine() {
        LineBuffers x = Expect.lineOf("m1,1,40;m1,1,40;");
        x.addStop(1, 5, 5);
        for (int k = 0; k < 40; k++) {
            x.run(1);
            Expect.equal("machine(1, 0)", 0, x.machine(1, 0));
            Expect.equal("meanFill(1)", 0.0, x.meanFill(1));
        }
    }

    @Sentence(of = "Line", says = "and the output does not depend on it.)")
    static void theOutputDoesNotDependOnTheLastCapacity() {
        LineBuffers x = Expect.lineOf("m3,2,2;m2,1,0;h0,0,1;h1,0,1;");
        x.addRandomStops(1, 5, 9, 9, 20);
        int output = x.outputWith(1, 0, 300);
        Expect.isTrue("there is output", output > 0);
        for (int capacity = 1; capacity <= 40; capacity++) {
            Expect.equal("outputWith(1, " + capacity + ", 300)", output, x.outputWith(1, capacity, 300));
        }
        x.setCapacity(1, 40);
        Expect.equal("run(300)", output, x.run(300));
    }

    @Sentence(of = "Line", says = "A machine has a slow cycle and a fast cycle, each 1 to 20 ticks,")
    static void cyclesOfOneAndOfTwentyTicks() {
        LineBuffers x = Expect.lineOf("m20,20,0;");
        Expect.equal("run(19)", 0, x.run(19));
        Expect.equal("run(1)", 1, x.run(1));
        x.restart();
        x.setMachine(0, 1, 1, 0, 40);
        Expect.equal("run(1)", 1, x.run(1));
        Expect.equal("run(19)", 19, x.run(19));
    }

    @Sentence(of = "Line", says = "the fast one not longer than the slow one;")
    static void theFastCycleMayBeTheSlowOne() {
        LineBuffers x = new LineBuffers();
        for (int cycle = 1; cycle <= 19; cycle += 6) {
            int slow = cycle;
            Expect.thrown(Expect.ARGUMENT, x, "fast above slow", () -> x.addMachine(slow, slow + 1, 0));
            int machine = x.addMachine(slow, slow, 0);
            Expect.settings(x, machine, slow, slow);
            Expect.thrown(Expect.ARGUMENT, x, "fast above slow",
                    () -> x.setMachine(machine, slow, slow + 1, 0, 0));
        }
    }

    @Sentence(of = "Line", says = "a low mark and a high mark, each 0 to 40, the low one not above the high one.")
    static void marksMayBeEqual() {
        LineBuffers x = Expect.lineOf("m2,1,3;m2,1,3;");
        for (int mark = 0; mark <= 40; mark += 8) {
            int same = mark;
            x.setMachine(0, 2, 1, same, same);
            Expect.settings(x, 0, 2, 1, same, same, 3);
            Expect.thrown(Expect.ARGUMENT, x, "low above high", () -> x.setMachine(0, 2, 1, same + 1, same));
        }
        x.setMachine(0, 2, 1, 0, 40);
        Expect.settings(x, 0, 2, 1, 0, 40, 3);
    }

    @Sentence(of = "the constants", says = "`NONE = -1`: There is no such thing.")
    static void noneIsMinusOne() {
        LineBuffers x = Expect.lineOf("m1,1,0;");
        Expect.equal("NONE", -1, LineBuffers.NONE);
        Expect.equal("no bottle", LineBuffers.NONE, x.machine(0, 1));
        Expect.equal("no capacity", LineBuffers.NONE, x.capacityFor(0, 1, 2));
    }

    @Sentence(of = "Promise 1", says = "Creates a simulator without machines, at tick 0.")
    static void aNewObjectIsEmpty() {
        LineBuffers x = new LineBuffers();
        Expect.equal("size(false)", 0, x.size(false));
        Expect.equal("size(true)", 0, x.size(true));
        Expect.equal("now()", 0, x.now());
        Expect.equal("clearText()", 0, x.clearText());
        Expect.thrown(Expect.STATE, x, "undo() of nothing", x::undo);
        Expect.indexes(x, "setting of machine", 0, m -> x.setting(m, 0));
    }

    @Sentence(of = "Promise 2", says = "Adds a machine at the end of the row,")
    static void addMachineAddsAtTheEnd() {
        LineBuffers x = Expect.lineOf("m3,3,3;m4,4,4;");
        Expect.equal("addMachine", 2, x.addMachine(5, 5, 5));
        Expect.settings(x, 0, 3, 3, 0, 40, 3);
        Expect.settings(x, 1, 4, 4, 0, 40, 4);
        Expect.settings(x, 2, 5, 5, 0, 40, 5);
        // The former last machine has a buffer of use now, and the new one puts bottles away.
        Expect.equal("run(12)", 1, x.run(12));
    }

    @Sentence(of = "Promise 2", says = "with low mark 0 and high mark 40; it holds no bottle.")
    static void aNewMachineHoldsNothing() {
        LineBuffers x = Expect.lineOf("m1,1,9;m9,9,9;h0,3,4;h1,5,6;");
        x.run(5);
        x.undo();
        x.undo();
        Expect.equal("size(false)", 0, x.size(false));
        for (int m = 0; m < 2; m++) {
            x.addMachine(2, 1, 3);
            Expect.settings(x, m, 2, 1, 0, 40, 3);
            Expect.machine(x, m, 0, LineBuffers.NONE, 1, 0);
            Expect.counts(x, m, 0, 0, 0, 0, 0, 0);
        }
    }

    @Sentence(of = "Promise 2", says = "`slow`: slow cycle, 1 to 20")
    static void addMachineTakesSlowFrom1To20() {
        LineBuffers x = new LineBuffers();
        Expect.range(x, "slow", 1, 20, slow -> x.addMachine(slow, 1, 0));
        Expect.settings(x, 0, 1);
        Expect.settings(x, 1, 20);
    }

    @Sentence(of = "Promise 2", says = "`fast`: fast cycle, 1 to slow")
    static void addMachineTakesFastFrom1ToSlow() {
        LineBuffers x = new LineBuffers();
        Expect.range(x, "fast", 1, 1, fast -> x.addMachine(1, fast, 0));
        Expect.range(x, "fast", 1, 7, fast -> x.addMachine(7, fast, 0));
        Expect.range(x, "fast", 1, 20, fast -> x.addMachine(20, fast, 0));
        Expect.settings(x, 5, 20, 20);
    }

    @Sentence(of = "Promise 2", says = "`capacity`: 0 to 40, of the buffer behind it")
    static void addMachineTakesCapacityFrom0To40() {
        LineBuffers x = new LineBuffers();
        Expect.range(x, "capacity", 0, 40, capacity -> x.addMachine(1, 1, capacity));
        Expect.equal("setting(0, 4)", 0, x.setting(0, 4));
        Expect.equal("setting(1, 4)", 40, x.setting(1, 4));
    }

    @Sentence(of = "Promise 2", says = "Throws `IllegalStateException` if there are 8 machines,")
    static void addMachineRefusesTheNinth() {
        LineBuffers x = Expect.lineOf("m1,1,1;m1,1,1;m1,1,1;m1,1,1;m1,1,1;m1,1,1;m1,1,1;");
        Expect.equal("the eighth", 7, x.addMachine(20, 20, 40));
        Expect.thrown(Expect.STATE, x, "the ninth", () -> x.addMachine(20, 20, 40));
        x.undo();
        Expect.equal("the eighth again", 7, x.addMachine(20, 20, 40));
    }

    @Sentence(of = "Promise 2", says = "or the present tick is not 0")
    static void addMachineRefusesBehindTick0() {
        LineBuffers x = Expect.lineOf("m1,1,1;");
        x.run(0);
        Expect.equal("at tick 0", 1, x.addMachine(1, 1, 1));
        x.run(1);
        Expect.thrown(Expect.STATE, x, "at tick 1", () -> x.addMachine(1, 1, 1));
        x.undo();
        Expect.equal("at tick 0 by undo()", 2, x.addMachine(1, 1, 1));
        x.run(2000);
        Expect.thrown(Expect.STATE, x, "at tick 2000", () -> x.addMachine(1, 1, 1));
        x.restart();
        Expect.equal("at tick 0 by restart()", 3, x.addMachine(1, 1, 1));
    }

    @Sentence(of = "Promise 3", says = "A bottle that it holds keeps its rest.")
    static void aBottleKeepsItsRest() {
        LineBuffers x = Expect.lineOf("m6,6,0;m20,20,0;");
        x.run(2);
        x.setMachine(0, 1, 1, 0, 40);
        Expect.equal("a rest above the new cycle", 4, x.machine(0, 1));
        x.setMachine(0, 20, 20, 0, 40);
        Expect.equal("a rest below it", 4, x.machine(0, 1));
        x.run(4);
        Expect.equal("it has gone on", 20, x.machine(1, 1));
        Expect.equal("none", LineBuffers.NONE, x.machine(0, 1));
        x.setMachine(0, 1, 1, 0, 40);
        Expect.equal("none still", LineBuffers.NONE, x.machine(0, 1));
        x.run(1);
        x.setMachine(0, 20, 20, 0, 40);
        Expect.equal("a finished one", 0, x.machine(0, 1));
    }

    @Sentence(of = "Promise 3", says = "Returns the previous fast cycle.")
    static void setMachineAnswersThePreviousFastCycle() {
        LineBuffers x = Expect.lineOf("m20,20,0;m9,3,0;");
        Expect.equal("setMachine", 20, x.setMachine(0, 20, 1, 0, 40));
        Expect.equal("setMachine", 1, x.setMachine(0, 20, 20, 0, 40));
        Expect.equal("setMachine of the last", 3, x.setMachine(1, 3, 3, 0, 0));
        Expect.equal("the same once more", 3, x.setMachine(1, 3, 3, 0, 0));
    }

    @Sentence(of = "Promise 3", says = "`machine`: number of a machine")
    static void setMachineNeedsAMachine() {
        LineBuffers none = new LineBuffers();
        Expect.indexes(none, "machine", 0, m -> none.setMachine(m, 1, 1, 0, 0));
        LineBuffers x = Expect.lineOf("m1,1,1;m1,1,1;");
        Expect.indexes(x, "machine", 2, m -> x.setMachine(m, 1, 1, 0, 0));
    }

    @Sentence(of = "Promise 3", says = "`slow`: slow cycle, 1 to 20")
    static void setMachineTakesSlowFrom1To20() {
        LineBuffers x = Expect.lineOf("m5,5,5;");
        Expect.range(x, "slow", 1, 20, slow -> x.setMachine(0, slow, 1, 0, 40));
        Expect.settings(x, 0, 20, 1);
    }

    @Sentence(of = "Promise 3", says = "`fast`: fast cycle, 1 to slow")
    static void setMachineTakesFastFrom1ToSlow() {
        LineBuffers x = Expect.lineOf("m9,5,5;");
        Expect.range(x, "fast", 1, 7, fast -> x.setMachine(0, 7, fast, 0, 40));
        Expect.range(x, "fast", 1, 20, fast -> x.setMachine(0, 20, fast, 0, 40));
        Expect.range(x, "fast", 1, 1, fast -> x.setMachine(0, 1, fast, 0, 40));
        // The slow cycle that counts is the new one.
        Expect.thrown(Expect.ARGUMENT, x, "above the new one", () -> x.setMachine(0, 4, 5, 0, 40));
        Expect.settings(x, 0, 1, 1);
    }

    @Sentence(of = "Promise 3", says = "`low`: low mark, 0 to high")
    static void setMachineTakesLowFrom0ToHigh() {
        LineBuffers x = Expect.lineOf("m9,5,5;h0,30,35;");
        Expect.range(x, "low", 0, 9, low -> x.setMachine(0, 1, 1, low, 9));
        Expect.range(x, "low", 0, 40, low -> x.setMachine(0, 1, 1, low, 40));
        Expect.range(x, "low", 0, 0, low -> x.setMachine(0, 1, 1, low, 0));
        Expect.settings(x, 0, 1, 1, 0, 0);
    }

    @Sentence(of = "Promise 3", says = "`high`: high mark, low to 40")
    static void setMachineTakesHighFromLowTo40() {
        LineBuffers x = Expect.lineOf("m9,5,5;h0,10,12;");
        Expect.range(x, "high", 0, 40, high -> x.setMachine(0, 1, 1, 0, high));
        Expect.range(x, "high", 20, 40, high -> x.setMachine(0, 1, 1, 20, high));
        Expect.range(x, "high", 40, 40, high -> x.setMachine(0, 1, 1, 40, high));
        Expect.settings(x, 0, 1, 1, 40, 40);
    }

    @Sentence(of = "Promise 4", says = "Bottles that are in it stay, also if they are more.")
    static void bottlesStayInABufferThatIsTooSmall() {
        LineBuffers x = Expect.lineOf("m1,1,40;m20,20,0;");
        x.run(8);
        Expect.machine(x, 0, 7);
        x.setCapacity(0, 7);
        Expect.machine(x, 0, 7);
        x.setCapacity(0, 6);
        Expect.machine(x, 0, 7);
        x.setCapacity(0, 0);
        Expect.machine(x, 0, 7);
        Expect.equal("inside()", 8, x.inside());
        x.run(12);
        Expect.machine(x, 0, 7);
        // The next machine still takes from it.
        x.run(2);
        Expect.machine(x, 0, 6);
        Expect.equal("output()", 1, x.output());
    }

    @Sentence(of = "Promise 4", says = "Returns the previous capacity.")
    static void setCapacityAnswersThePreviousOne() {
        LineBuffers x = Expect.lineOf("m1,1,40;m1,1,0;");
        Expect.equal("from 40", 40, x.setCapacity(0, 0));
        Expect.equal("from 0", 0, x.setCapacity(0, 0));
        Expect.equal("from 0", 0, x.setCapacity(0, 5));
        Expect.equal("of the last", 0, x.setCapacity(1, 9));
        Expect.equal("of the last", 9, x.setCapacity(1, 9));
    }

    @Sentence(of = "Promise 4", says = "`machine`: number of the machine before it")
    static void setCapacityNeedsAMachine() {
        LineBuffers none = new LineBuffers();
        Expect.indexes(none, "machine", 0, m -> none.setCapacity(m, 1));
        LineBuffers x = Expect.lineOf("m1,1,1;m1,1,1;m1,1,1;");
        Expect.indexes(x, "machine", 3, m -> x.setCapacity(m, 4));
        Expect.equal("setting(0, 4)", 4, x.setting(0, 4));
        Expect.equal("setting(1, 4)", 1, x.setting(1, 4));
        Expect.equal("setting(2, 4)", 4, x.setting(2, 4));
    }

    @Sentence(of = "Promise 4", says = "`capacity`: 0 to 40")
    static void setCapacityTakes0To40() {
        LineBuffers x = Expect.lineOf("m1,1,1;");
        Expect.range(x, "capacity", 0, 40, capacity -> x.setCapacity(0, capacity));
        Expect.equal("setting(0, 4)", 40, x.setting(0, 4));
    }

    @Sentence(of = "Promise 8", says = "Returns the number of machines or of planned stops.")
    static void sizeCountsFromNoneToAll() {
        LineBuffers x = new LineBuffers();
        for (int m = 1; m <= 8; m++) {
            Expect.equal("machines before", m - 1, x.size(false));
            x.addMachine(1, 1, 1);
        }
        Expect.equal("machines", 8, x.size(false));
        for (int k = 1; k <= 40; k++) {
            Expect.equal("stops before", k - 1, x.size(true));
            x.addStop(0, k, 1);
        }
        Expect.equal("stops", 40, x.size(true));
        Expect.equal("machines still", 8, x.size(false));
    }

    @Sentence(of = "Promise 14", says = "`machine`: number of a machine")
    static void settingNeedsAMachine() {
        LineBuffers none = new LineBuffers();
        Expect.indexes(none, "machine", 0, m -> none.setting(m, 0));
        LineBuffers x = Expect.lineOf("m1,1,1;m1,1,1;");
        Expect.indexes(x, "machine", 2, m -> x.setting(m, 0));
    }

    @Sentence(of = "Promise 14",
            says = "`what`: 0 its slow cycle, 1 its fast cycle, 2 its low mark, 3 its high mark, 4 the capacity")
    static void settingTakesWhatFrom0To4() {
        LineBuffers x = Expect.lineOf("m9,8,7;h0,5,6;");
        Expect.range(x, "what", 0, 4, what -> x.setting(0, what));
        Expect.settings(x, 0, 9, 8, 5, 6, 7);
    }
}
