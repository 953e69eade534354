/** The edges of the promises 22 to 24: a test per sentence. */
final class WhatIfEdges {
    private WhatIfEdges() {
    }

    /** What is stored while the second machine is down comes out later, for the first one is down then. */
    private static LineBuffers storingLine() {
        LineBuffers x = Expect.lineOf("m1,1,7;m1,1,9;");
        x.addStop(1, 1, 60);
        x.addStop(0, 61, 200);
        return x;
    }

    @Sentence(of = "Promise 22", says = "Tells what the output of the ticks 1 to T would be if the line began anew,")
    static void outputWithBeginsAnewAtTick1() {
        LineBuffers x = Expect.lineOf("m1,1,0;m1,1,0;");
        x.addStop(0, 1, 1);
        x.run(50);
        // The first machine is down in tick 1, and its bottle of tick 2 comes out in tick 3.
        int[] due = {0, 0, 1, 2, 3};
        for (int ticks = 1; ticks <= due.length; ticks++) {
            Expect.equal("outputWith(0, 0, " + ticks + ")", due[ticks - 1], x.outputWith(0, 0, ticks));
        }
    }

    @Sentence(of = "Promise 22", says = "if the line began anew,")
    static void outputWithWorksAtTick10000() {
        LineBuffers x = Expect.lineOf("m1,1,1;m20,20,1;");
        for (int k = 0; k < 5; k++) {
            x.run(2000);
        }
        // Bottles come out in the ticks 21, 41 and so on.
        Expect.equal("outputWith(0, 3, 2000)", 99, x.outputWith(0, 3, 2000));
        Expect.equal("capacityFor(0, 2000, 99)", 0, x.capacityFor(0, 2000, 99));
        Expect.equal("bestBuffer(2000, 1)", 0, x.bestBuffer(2000, 1));
        Expect.equal("now()", 10000, x.now());
    }

    @Sentence(of = "Promise 22", says = "with its present settings and all planned stops,")
    static void outputWithTakesPresentSettingsAndAllStops() {
        LineBuffers x = Expect.lineOf("m1,1,0;m1,1,0;m1,1,0;");
        x.addStop(2, 3, 4);
        x.run(30);
        x.addStop(1, 31, 200);
        x.setMachine(0, 3, 3, 0, 40);
        x.setCapacity(1, 1);
        // A bottle in the ticks 3, 6 and so on; it is out two ticks later, the first one in tick 7.
        Expect.equal("outputWith(0, 0, 6)", 0, x.outputWith(0, 0, 6));
        Expect.equal("outputWith(0, 0, 7)", 1, x.outputWith(0, 0, 7));
        Expect.equal("outputWith(0, 0, 8)", 2, x.outputWith(0, 0, 8));
        // The bottles of the ticks 3 to 27 are out in tick 29; that of tick 30 does not get through tick 31.
        Expect.equal("outputWith(0, 0, 230)", 9, x.outputWith(0, 0, 230));
        Expect.equal("outputWith(0, 0, 232)", 10, x.outputWith(0, 0, 232));
    }

    @Sentence(of = "Promise 22", says = "and a buffer had another capacity.")
    static void outputWithTakesTheOtherBuffersAsTheyAre() {
        LineBuffers x = Expect.lineOf("m1,1,2;m1,1,3;m1,1,0;");
        x.addStop(2, 1, 60);
        x.addStop(0, 61, 200);
        // What is stored: in the first buffer, in the second machine, in the second buffer.
        Expect.equal("outputWith(0, 0, 200)", 4, x.outputWith(0, 0, 200));
        Expect.equal("outputWith(0, 2, 200)", 6, x.outputWith(0, 2, 200));
        Expect.equal("outputWith(0, 40, 200)", 44, x.outputWith(0, 40, 200));
        Expect.equal("outputWith(1, 0, 200)", 3, x.outputWith(1, 0, 200));
        Expect.equal("outputWith(1, 40, 200)", 43, x.outputWith(1, 40, 200));
        Expect.equal("outputWith(2, 40, 200)", 6, x.outputWith(2, 40, 200));
    }

    @Sentence(of = "Promise 22", says = "Tells what the output")
    static void outputWithChangesNothing() {
        LineBuffers x = storingLine();
        x.run(63);
        long before = x.digest();
        double mean = x.meanFill(0);
        x.outputWith(0, 40, 2000);
        x.capacityFor(0, 2000, 30);
        x.bestBuffer(2000, 40);
        Expect.equal("digest()", before, x.digest());
        Expect.equal("meanFill(0)", mean, x.meanFill(0));
        Expect.equal("setting(0, 4)", 7, x.setting(0, 4));
        // Machine 0 is down still in the ticks to come, machine 1 takes what is stored.
        Expect.equal("run(9)", 4, x.run(9));
    }

    @Sentence(of = "Promise 22", says = "`machine`: number of the machine before the buffer")
    static void outputWithNeedsAMachine() {
        LineBuffers none = new LineBuffers();
        Expect.indexes(none, "machine", 0, m -> none.outputWith(m, 0, 1));
        LineBuffers x = storingLine();
        Expect.indexes(x, "machine", 2, m -> x.outputWith(m, 0, 1));
    }

    @Sentence(of = "Promise 22", says = "`capacity`: 0 to 40")
    static void outputWithTakesCapacityFrom0To40() {
        LineBuffers x = storingLine();
        Expect.range(x, "capacity", 0, 40, capacity -> x.outputWith(0, capacity, 200));
        Expect.equal("outputWith(0, 0, 200)", 0, x.outputWith(0, 0, 200));
        Expect.equal("outputWith(0, 40, 200)", 40, x.outputWith(0, 40, 200));
    }

    @Sentence(of = "Promise 22", says = "`ticks`: T, 1 to 2000")
    static void outputWithTakes1To2000Ticks() {
        LineBuffers x = Expect.lineOf("m1,1,0;");
        Expect.range(x, "ticks", 1, 2000, ticks -> x.outputWith(0, 0, ticks));
        Expect.equal("outputWith(0, 0, 1)", 1, x.outputWith(0, 0, 1));
        Expect.equal("outputWith(0, 0, 2000)", 2000, x.outputWith(0, 0, 2000));
    }

    @Sentence(of = "Promise 23", says = "Finds the smallest capacity of a buffer with which outputWith() is at least a number.")
    static void capacityForIsExact() {
        LineBuffers x = storingLine();
        for (int wanted = 0; wanted <= 40; wanted++) {
            Expect.equal("capacityFor(0, 200, " + wanted + ")", wanted, x.capacityFor(0, 200, wanted));
        }
    }

    @Sentence(of = "Promise 23", says = "Finds the smallest capacity of a buffer with which outputWith() is at least a number.")
    static void capacityForTakesTheSmallestThoughMoreDoHarm() {
        // From three bottles on the first machine is slow for long; with two places it never is.
        LineBuffers x = Expect.lineOf("m9,1,1;m2,2,0;h0,0,3;");
        x.addStop(0, 20, 10);
        x.addStop(1, 5, 8);
        int[] outputs = {21, 21, 22, 18};
        for (int capacity = 0; capacity <= 40; capacity++) {
            Expect.equal("outputWith(0, " + capacity + ", 60)", outputs[Math.min(capacity, 3)],
                    x.outputWith(0, capacity, 60));
        }
        Expect.equal("capacityFor(0, 60, 18)", 0, x.capacityFor(0, 60, 18));
        Expect.equal("capacityFor(0, 60, 21)", 0, x.capacityFor(0, 60, 21));
        Expect.equal("capacityFor(0, 60, 22)", 2, x.capacityFor(0, 60, 22));
        Expect.equal("capacityFor(0, 60, 23)", LineBuffers.NONE, x.capacityFor(0, 60, 23));
    }

    @Sentence(of = "Promise 23", says = "Returns the capacity; NONE if there is none from 0 to 40.")
    static void capacityForEndsAt40() {
        LineBuffers x = storingLine();
        Expect.equal("wanted 40", 40, x.capacityFor(0, 200, 40));
        Expect.equal("wanted 41", LineBuffers.NONE, x.capacityFor(0, 200, 41));
        Expect.equal("wanted 2000", LineBuffers.NONE, x.capacityFor(0, 200, 2000));
        Expect.equal("wanted 0", 0, x.capacityFor(0, 200, 0));
        // Behind the last machine each capacity does the same; there are seven places before it.
        Expect.equal("the last, wanted 7", 0, x.capacityFor(1, 200, 7));
        Expect.equal("the last, wanted 8", LineBuffers.NONE, x.capacityFor(1, 200, 8));
    }

    @Sentence(of = "Promise 23", says = "`machine`: number of the machine before the buffer")
    static void capacityForNeedsAMachine() {
        LineBuffers none = new LineBuffers();
        Expect.indexes(none, "machine", 0, m -> none.capacityFor(m, 1, 0));
        LineBuffers x = storingLine();
        Expect.indexes(x, "machine", 2, m -> x.capacityFor(m, 1, 0));
    }

    @Sentence(of = "Promise 23", says = "`ticks`: T, 1 to 2000")
    static void capacityForTakes1To2000Ticks() {
        LineBuffers x = Expect.lineOf("m1,1,0;");
        Expect.range(x, "ticks", 1, 2000, ticks -> x.capacityFor(0, ticks, 1));
        Expect.equal("1 of 1", 0, x.capacityFor(0, 1, 1));
        Expect.equal("2 of 1", LineBuffers.NONE, x.capacityFor(0, 1, 2));
        Expect.equal("2000 of 2000", 0, x.capacityFor(0, 2000, 2000));
        Expect.equal("2000 of 1999", LineBuffers.NONE, x.capacityFor(0, 1999, 2000));
    }

    @Sentence(of = "Promise 23", says = "`wanted`: 0 to 2000")
    static void capacityForTakesWantedFrom0To2000() {
        LineBuffers x = storingLine();
        Expect.range(x, "wanted", 0, 2000, wanted -> x.capacityFor(0, 1, wanted));
        Expect.equal("0 of none", 0, x.capacityFor(0, 1, 0));
    }

    @Sentence(of = "Promise 24", says = "Finds the buffer (not the one behind the last machine)")
    static void bestBufferLeavesTheLastOneOut() {
        // With the more places of the first buffer the output falls; behind the last machine it would stay.
        LineBuffers x = Expect.lineOf("m9,1,1;m2,2,0;h0,0,2;");
        Expect.isTrue("more places do harm", x.outputWith(0, 6, 50) < x.outputWith(1, 5, 50));
        Expect.equal("bestBuffer(50, 5)", 0, x.bestBuffer(50, 5));
        // The one before the last can be the best, with eight machines, too.
        LineBuffers y = Expect.lineOf("m1,1,0;m1,1,0;m1,1,0;m1,1,0;m1,1,0;m1,1,0;m1,1,0;m1,1,0;");
        y.addStop(7, 20, 20);
        y.addStop(6, 40, 20);
        Expect.equal("bestBuffer(50, 5)", 6, y.bestBuffer(50, 5));
    }

    @Sentence(of = "Promise 24", says = "the one with the greatest outputWith() for its capacity plus the places")
    static void bestBufferAddsThePlacesToEachCapacity() {
        LineBuffers x = Expect.lineOf("m1,1,5;m1,1,0;m1,1,0;");
        x.addStop(2, 1, 60);
        x.addStop(0, 61, 200);
        // Stored: five, one, and the places more, in the one buffer or in the other.
        Expect.equal("first", 9, x.outputWith(0, 8, 200));
        Expect.equal("second", 9, x.outputWith(1, 3, 200));
        Expect.equal("bestBuffer(200, 3)", 0, x.bestBuffer(200, 3));
        x.addStop(1, 61, 200);
        // Now the second machine does not hand on what is before it.
        Expect.equal("bestBuffer(200, 3)", 1, x.bestBuffer(200, 3));
        Expect.equal("setting(0, 4)", 5, x.setting(0, 4));
        Expect.equal("setting(1, 4)", 0, x.setting(1, 4));
    }

    @Sentence(of = "Promise 24", says = "(but at most 40),")
    static void bestBufferGoesTo40Places() {
        LineBuffers x = Expect.lineOf("m1,1,39;m1,1,38;m1,1,0;");
        x.addStop(2, 1, 200);
        x.addStop(0, 201, 200);
        // One more in each buffer: as many. Two more: the first one has room for one alone.
        Expect.equal("bestBuffer(380, 1)", 0, x.bestBuffer(380, 1));
        Expect.equal("bestBuffer(380, 2)", 1, x.bestBuffer(380, 2));
        Expect.equal("bestBuffer(380, 40)", 1, x.bestBuffer(380, 40));
        x.setCapacity(0, 40);
        x.setCapacity(1, 40);
        Expect.equal("both full", 0, x.bestBuffer(380, 40));
    }

    @Sentence(of = "Promise 24", says = "of several the one with the lowest number.")
    static void ofSeveralBestBuffersTheLowest() {
        LineBuffers x = Expect.lineOf("m1,1,3;m1,1,3;m1,1,3;m1,1,3;");
        Expect.equal("no output", 0, x.bestBuffer(1, 40));
        Expect.equal("the same output", 0, x.bestBuffer(100, 1));
        x.addStop(3, 10, 40);
        x.addStop(0, 50, 40);
        x.addStop(1, 50, 40);
        x.addStop(2, 50, 40);
        // Only what is stored behind the third machine comes out in the ticks 50 to 80.
        Expect.isTrue("the third is better", x.outputWith(2, 9, 80) > x.outputWith(1, 9, 80));
        Expect.equal("bestBuffer(80, 6)", 2, x.bestBuffer(80, 6));
        x.clearStops();
        x.addStop(3, 10, 40);
        x.addStop(0, 50, 40);
        // All places do the same for the output of 80 ticks.
        Expect.equal("the second as good as the first", x.outputWith(0, 9, 80), x.outputWith(1, 9, 80));
        Expect.equal("bestBuffer(80, 6)", 0, x.bestBuffer(80, 6));
    }

    @Sentence(of = "Promise 24", says = "`ticks`: T, 1 to 2000")
    static void bestBufferTakes1To2000Ticks() {
        LineBuffers x = storingLine();
        Expect.range(x, "ticks", 1, 2000, ticks -> x.bestBuffer(ticks, 1));
    }

    @Sentence(of = "Promise 24", says = "`places`: 1 to 40")
    static void bestBufferTakes1To40Places() {
        LineBuffers x = storingLine();
        Expect.range(x, "places", 1, 40, places -> x.bestBuffer(200, places));
    }

    @Sentence(of = "Promise 24", says = "Throws `IllegalStateException` if there are fewer than 2 machines")
    static void bestBufferNeedsTwoMachines() {
        LineBuffers x = new LineBuffers();
        Expect.thrown(Expect.STATE, x, "none", () -> x.bestBuffer(1, 1));
        x.addMachine(1, 1, 1);
        Expect.thrown(Expect.STATE, x, "one", () -> x.bestBuffer(1, 1));
        x.addMachine(1, 1, 1);
        Expect.equal("two", 0, x.bestBuffer(1, 1));
    }
}
