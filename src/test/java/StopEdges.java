import java.math.BigInteger;

/** The edges of the description's part Stops, and of the promises 5 to 7 and 9: a test per sentence. */
final class StopEdges {
    private StopEdges() {
    }

    private static LineBuffers twoMachines() {
        return Expect.lineOf("m1,1,1;m1,1,1;");
    }

    /** Two machines at the tick; there are four saved states then at most. */
    private static LineBuffers atTick(int tick) {
        LineBuffers x = twoMachines();
        for (int left = tick; left > 0; left -= 2000) {
            x.run(Math.min(left, 2000));
        }
        Expect.equal("now()", tick, x.now());
        return x;
    }

    @Sentence(of = "Stops", says = "At most 40 stops are planned,")
    static void fortyStopsAtMost() {
        LineBuffers x = twoMachines();
        for (int k = 1; k <= 40; k++) {
            Expect.equal("addStop", k, x.addStop(1, 10 * k, 1));
        }
        Expect.thrown(Expect.STATE, x, "the 41st", () -> x.addStop(1, 500, 1));
        Expect.equal("size(true)", 40, x.size(true));
        Expect.stop(x, 39, 1, 400, 1);
        x.run(410);
        Expect.equal("down ticks", 40, x.count(1, 3));
    }

    @Sentence(of = "Stops", says = "if one of its stops has its first tick at most t,")
    static void aStopBeginsAtItsFirstTick() {
        LineBuffers x = twoMachines();
        x.addStop(0, 3, 5);
        x.run(2);
        Expect.equal("the tick before", 1, x.machine(0, 3));
        x.run(1);
        Expect.equal("the first tick", 4, x.machine(0, 3));
    }

    @Sentence(of = "Stops", says = "and first tick + duration above t.")
    static void aStopEndsWithItsLastTick() {
        LineBuffers x = twoMachines();
        x.addStop(0, 3, 5);
        x.run(7);
        Expect.equal("the last tick", 4, x.machine(0, 3));
        x.run(1);
        Expect.equal("the tick behind", 1, x.machine(0, 3));
        Expect.equal("down ticks", 5, x.count(0, 3));
    }

    @Sentence(of = "Stops", says = "and a duration, 1 to 200.")
    static void aStopOfOneTickAndOneOf200() {
        LineBuffers x = twoMachines();
        x.addStop(0, 1, 1);
        x.addStop(1, 1, 200);
        x.run(1);
        Expect.equal("tick 1", 4, x.machine(0, 3));
        x.run(1);
        Expect.equal("tick 2", 1, x.machine(0, 3));
        x.run(198);
        Expect.equal("tick 200", 4, x.machine(1, 3));
        x.run(1);
        Expect.equal("tick 201", 1, x.machine(1, 3));
        Expect.equal("down ticks", 1, x.count(0, 3));
        Expect.equal("down ticks", 200, x.count(1, 3));
    }

    @Sentence(of = "Stops", says = "A machine is down at a tick t if one of its stops")
    static void aStopIsOfItsMachineAlone() {
        LineBuffers x = Expect.lineOf("m1,1,0;m1,1,0;m1,1,0;m1,1,0;m1,1,0;m1,1,0;m1,1,0;m1,1,0;");
        x.addStop(0, 1, 3);
        x.addStop(7, 2, 4);
        x.run(9);
        int[] down = {3, 0, 0, 0, 0, 0, 0, 4};
        for (int m = 0; m < 8; m++) {
            Expect.equal("count(" + m + ", 3)", down[m], x.count(m, 3));
        }
    }

    @Sentence(of = "Stops", says = "A machine is down at a tick t if one of its stops")
    static void stopsThatOverlapAndTouch() {
        LineBuffers x = twoMachines();
        x.addStop(0, 2, 3);
        x.addStop(0, 3, 1);
        x.addStop(0, 5, 2);
        x.addStop(0, 2, 3);
        x.addStop(0, 8, 1);
        int[] latest = {1, 4, 4, 4, 4, 4, 1, 4, 1};
        for (int due : latest) {
            x.run(1);
            Expect.equal("tick " + x.now() + " machine(0, 3)", due, x.machine(0, 3));
        }
        Expect.equal("each down tick counts once", 6, x.count(0, 3));
    }

    @Sentence(of = "Promise 5", says = "`first`: its first tick, above the present tick and at most 10000")
    static void addStopTakesFirstAboveThePresentTick() {
        LineBuffers x = twoMachines();
        Expect.range(x, "first at tick 0", 1, 10000, first -> x.addStop(0, first, 1));
        x.run(1);
        Expect.range(x, "first at tick 1", 2, 10000, first -> x.addStop(0, first, 1));
        LineBuffers y = atTick(9999);
        Expect.range(y, "first at tick 9999", 10000, 10000, first -> y.addStop(0, first, 1));
        LineBuffers z = atTick(10000);
        Expect.thrown(Expect.ARGUMENT, z, "10000 at tick 10000", () -> z.addStop(0, 10000, 1));
        Expect.thrown(Expect.ARGUMENT, z, "10001 at tick 10000", () -> z.addStop(0, 10001, 1));
    }

    @Sentence(of = "Promise 5", says = "`duration`: 1 to 200")
    static void addStopTakesDurationFrom1To200() {
        LineBuffers x = twoMachines();
        Expect.range(x, "duration", 1, 200, duration -> x.addStop(0, 1, duration));
        // A stop may end behind tick 10000.
        Expect.range(x, "duration at 10000", 1, 200, duration -> x.addStop(0, 10000, duration));
        Expect.stop(x, 3, 0, 10000, 200);
    }

    @Sentence(of = "Promise 5", says = "`machine`: number of a machine")
    static void addStopNeedsAMachine() {
        LineBuffers none = new LineBuffers();
        Expect.indexes(none, "machine", 0, m -> none.addStop(m, 1, 1));
        LineBuffers x = twoMachines();
        Expect.indexes(x, "machine", 2, m -> x.addStop(m, 1, 1));
        Expect.stop(x, 0, 0, 1, 1);
        Expect.stop(x, 1, 1, 1, 1);
    }

    @Sentence(of = "Promise 5", says = "Throws `IllegalStateException` if 40 stops are planned")
    static void addStopRefusesTheFortyFirst() {
        LineBuffers x = twoMachines();
        Expect.equal("39 drawn", 39, x.addRandomStops(0, 5, 10, 3, 39));
        Expect.equal("the 40th", 40, x.addStop(1, 10000, 200));
        Expect.thrown(Expect.STATE, x, "the 41st", () -> x.addStop(1, 10000, 200));
        x.undo();
        Expect.equal("the 40th again", 40, x.addStop(1, 1, 1));
        x.run(1);
        // Past stops are planned ones still.
        Expect.thrown(Expect.STATE, x, "the 41st", () -> x.addStop(1, 10000, 200));
    }

    @Sentence(of = "Promise 6", says = "There is a number s, which is the seed at first,")
    static void theSeedsAtTheEnds() {
        LineBuffers x = twoMachines();
        x.addRandomStops(0, 0, 500, 100, 3);
        Expect.stop(x, 0, 0, 1, 69);
        Expect.stop(x, 1, 0, 1058, 118);
        Expect.stop(x, 2, 0, 1674, 128);
        x.addRandomStops(1, 999999, 500, 100, 3);
        Expect.stop(x, 3, 1, 729, 159);
        Expect.stop(x, 4, 1, 1071, 40);
        Expect.stop(x, 5, 1, 1293, 54);
    }

    @Sentence(of = "Promise 6", says = "and a tick e, which is the present tick at first.")
    static void randomStopsBeginBehindThePresentTick() {
        LineBuffers x = twoMachines();
        // The end of an earlier stop does not matter, nor do other machines' stops.
        x.addStop(0, 300, 200);
        x.run(5);
        Expect.equal("addRandomStops", 5, x.addRandomStops(0, 42, 3, 2, 4));
        Expect.stop(x, 1, 0, 7, 2);
        Expect.stop(x, 2, 0, 14, 2);
        Expect.stop(x, 3, 0, 18, 2);
        Expect.stop(x, 4, 0, 23, 1);
        Expect.equal("again", 7, x.addRandomStops(1, 42, 3, 2, 2));
        Expect.stop(x, 5, 1, 7, 2);
        Expect.stop(x, 6, 1, 14, 2);
    }

    /** A draw is worked out once more here, with numbers that cannot overflow. */
    @Sentence(of = "Promise 6",
            says = "A draw makes s (1103515245 * s + 12345) modulo 2147483648, and gives s / 65536, rounded down.")
    static void drawsWrapAround() {
        for (int seed : new int[] {0, 1, 2, 3, 65535, 65536, 500000, 999999}) {
            LineBuffers x = twoMachines();
            x.addRandomStops(0, seed, 500, 100, 5);
            BigInteger s = BigInteger.valueOf(seed);
            int e = 0;
            for (int k = 0; k < 5; k++) {
                s = nextState(s);
                int first = e + 1 + drawOf(s) % 1000;
                s = nextState(s);
                int duration = 1 + drawOf(s) % 200;
                Expect.stop(x, k, 0, first, duration);
                e = first + duration - 1;
            }
        }
    }

    private static BigInteger nextState(BigInteger s) {
        return s.multiply(BigInteger.valueOf(1103515245)).add(BigInteger.valueOf(12345))
                .mod(BigInteger.valueOf(2147483648L));
    }

    private static int drawOf(BigInteger s) {
        return s.divide(BigInteger.valueOf(65536)).intValueExact();
    }

    @Sentence(of = "Promise 6", says = "For each stop the first tick is e + 1 + (a draw modulo (2 * up)),")
    static void theFirstTickLies1To2UpBehind() {
        LineBuffers x = twoMachines();
        x.addRandomStops(0, 0, 500, 1, 1);
        Expect.equal("the nearest", 1, x.stop(0, 1));
        x.addRandomStops(0, 917, 500, 1, 1);
        Expect.equal("the farthest", 1000, x.stop(1, 1));
        x.addRandomStops(0, 999999, 1, 1, 2);
        Expect.equal("the nearest of up 1", 1, x.stop(2, 1));
        Expect.equal("the farthest of up 1", 3, x.stop(3, 1));
    }

    @Sentence(of = "Promise 6", says = "the duration 1 + (a draw modulo (2 * down)),")
    static void theDurationIs1To2Down() {
        LineBuffers x = twoMachines();
        x.addRandomStops(0, 217, 1, 100, 1);
        Expect.equal("the shortest", 1, x.stop(0, 2));
        x.addRandomStops(0, 23, 1, 100, 1);
        Expect.equal("the longest", 200, x.stop(1, 2));
        x.addRandomStops(0, 0, 1, 1, 2);
        Expect.equal("the shortest of down 1", 1, x.stop(2, 2));
        Expect.equal("the longest of down 1", 2, x.stop(3, 2));
    }

    @Sentence(of = "Promise 6", says = "and e becomes the last tick of the stop;")
    static void theNextStopBeginsBehindTheLastTick() {
        LineBuffers x = twoMachines();
        // Both draws of the first stop are 0, so it is tick 1 alone; the next draw modulo 2 is 0, too.
        Expect.equal("addRandomStops", 2, x.addRandomStops(0, 0, 1, 1, 2));
        Expect.stop(x, 0, 0, 1, 1);
        Expect.stop(x, 1, 0, 2, 2);
        Expect.equal("addRandomStops", 5, x.addRandomStops(1, 34298, 500, 100, 3));
        // The first stop lasts from 1000 to 1199; the draw behind it is 912.
        Expect.stop(x, 2, 1, 1000, 200);
        Expect.stop(x, 3, 1, 2112, 34);
    }

    @Sentence(of = "Promise 6", says = "a stop with a first tick above 10000 is not planned,")
    static void aRandomStopAtTick10000IsPlanned() {
        LineBuffers x = atTick(9990);
        Expect.equal("first 10001", 0, x.addRandomStops(0, 13, 10, 1, 1));
        Expect.equal("first 10000", 1, x.addRandomStops(0, 16, 10, 1, 1));
        Expect.stop(x, 0, 0, 10000, 2);
        Expect.equal("first 10000, beyond the end", 2, x.addRandomStops(0, 44, 10, 100, 1));
        Expect.stop(x, 1, 0, 10000, 183);
        LineBuffers y = atTick(10000);
        Expect.equal("at tick 10000", 0, y.addRandomStops(0, 0, 1, 1, 40));
    }

    @Sentence(of = "Promise 6", says = "and ends this.")
    static void aRandomStopAbove10000IsTheLastDraw() {
        LineBuffers x = atTick(9990);
        // The draws modulo 20 are 2, 0, 9, 13, 0: the second stop would begin at 10003, a third one at 9994.
        Expect.equal("addRandomStops", 1, x.addRandomStops(0, 641, 10, 1, 3));
        Expect.stop(x, 0, 0, 9993, 1);
        LineBuffers y = twoMachines();
        Expect.equal("17 of 40", 17, y.addRandomStops(0, 7, 500, 100, 40));
        Expect.stop(y, 16, 0, 9685, 91);
    }

    @Sentence(of = "Promise 6", says = "Undoable.")
    static void randomStopsAreUndoableThoughNoneIsPlanned() {
        LineBuffers x = atTick(10000);
        Expect.equal("none planned", 0, x.addRandomStops(0, 0, 1, 1, 3));
        Expect.equal("undo()", 3, x.undo());
        Expect.equal("now()", 10000, x.now());
        Expect.equal("undo()", 2, x.undo());
        Expect.equal("now()", 8000, x.now());
    }

    @Sentence(of = "Promise 6", says = "`machine`: number of a machine")
    static void addRandomStopsNeedsAMachine() {
        LineBuffers none = new LineBuffers();
        Expect.indexes(none, "machine", 0, m -> none.addRandomStops(m, 1, 1, 1, 1));
        LineBuffers x = twoMachines();
        Expect.indexes(x, "machine", 2, m -> x.addRandomStops(m, 1, 1, 1, 1));
        Expect.equal("stop(0, 0)", 0, x.stop(0, 0));
        Expect.equal("stop(1, 0)", 1, x.stop(1, 0));
    }

    @Sentence(of = "Promise 6", says = "`seed`: 0 to 999999")
    static void addRandomStopsTakesSeedFrom0To999999() {
        LineBuffers x = twoMachines();
        Expect.range(x, "seed", 0, 999999, seed -> x.addRandomStops(0, seed, 1, 1, 1));
        Expect.equal("size(true)", 2, x.size(true));
    }

    @Sentence(of = "Promise 6", says = "`up`: 1 to 500")
    static void addRandomStopsTakesUpFrom1To500() {
        LineBuffers x = twoMachines();
        Expect.range(x, "up", 1, 500, up -> x.addRandomStops(0, 1, up, 1, 1));
        Expect.equal("size(true)", 2, x.size(true));
    }

    @Sentence(of = "Promise 6", says = "`down`: 1 to 100")
    static void addRandomStopsTakesDownFrom1To100() {
        LineBuffers x = twoMachines();
        Expect.range(x, "down", 1, 100, down -> x.addRandomStops(0, 1, 1, down, 1));
        Expect.equal("size(true)", 2, x.size(true));
    }

    @Sentence(of = "Promise 6", says = "`number`: number of stops, 1 to 40")
    static void addRandomStopsTakesNumberFrom1To40() {
        LineBuffers x = twoMachines();
        Expect.range(x, "number", 1, 40, number -> {
            if (number == 40) {
                x.clearStops();
            }
            Expect.equal("addRandomStops", number, x.addRandomStops(0, 5, 10, 3, number));
        });
        Expect.stop(x, 39, 0, 551, 6);
    }

    @Sentence(of = "Promise 6", says = "Returns the number of planned stops, all machines together.")
    static void addRandomStopsAnswersAllStops() {
        LineBuffers x = twoMachines();
        x.addStop(1, 3, 3);
        Expect.equal("one and two", 3, x.addRandomStops(0, 5, 10, 3, 2));
        Expect.equal("three and 37", 40, x.addRandomStops(1, 5, 10, 3, 37));
    }

    @Sentence(of = "Promise 6", says = "Throws `IllegalStateException` if more than 40 stops would be planned "
            + "(with all of number, whether they end early or not)")
    static void addRandomStopsCountsAllOfNumber() {
        LineBuffers x = twoMachines();
        x.addStop(1, 1, 1);
        Expect.thrown(Expect.STATE, x, "40 beside 1", () -> x.addRandomStops(0, 5, 10, 3, 40));
        Expect.thrown(Expect.STATE, x, "40 that end early", () -> x.addRandomStops(0, 7, 500, 100, 40));
        Expect.equal("39 that end early", 18, x.addRandomStops(0, 7, 500, 100, 39));
        Expect.thrown(Expect.STATE, x, "23 beside 18", () -> x.addRandomStops(0, 7, 500, 100, 23));
        Expect.equal("22 beside 18", 40, x.addRandomStops(0, 5, 10, 3, 22));
        Expect.thrown(Expect.STATE, x, "1 beside 40", () -> x.addRandomStops(0, 7, 500, 100, 1));
    }

    @Sentence(of = "Promise 7", says = "Removes all stops that begin after the present tick.")
    static void clearStopsKeepsWhatBeginsAtThePresentTick() {
        LineBuffers x = twoMachines();
        x.addStop(0, 6, 1);
        x.addStop(1, 5, 4);
        x.addStop(0, 4, 1);
        x.addStop(1, 10000, 200);
        x.addStop(0, 5, 1);
        x.run(5);
        Expect.equal("clearStops()", 2, x.clearStops());
        Expect.equal("size(true)", 3, x.size(true));
        Expect.stop(x, 0, 1, 5, 4);
        Expect.stop(x, 1, 0, 4, 1);
        Expect.stop(x, 2, 0, 5, 1);
        // A stop that has begun goes on; one that was removed does not begin.
        x.run(3);
        Expect.machine(x, 1, 0, -1, 1, 4);
        Expect.equal("down ticks", 2, x.count(0, 3));
        x.run(1);
        Expect.equal("machine(1, 3)", 1, x.machine(1, 3));
    }

    @Sentence(of = "Promise 7", says = "Returns the number of stops that were removed.")
    static void clearStopsAnswersFromNoneToAll() {
        LineBuffers none = new LineBuffers();
        Expect.equal("without machines", 0, none.clearStops());
        LineBuffers x = twoMachines();
        Expect.equal("without stops", 0, x.clearStops());
        x.addRandomStops(0, 5, 10, 3, 40);
        Expect.equal("all", 40, x.clearStops());
        Expect.equal("size(true)", 0, x.size(true));
        Expect.equal("none is left", 0, x.clearStops());
        x.addStop(0, 1, 1);
        x.run(1);
        Expect.equal("none begins later", 0, x.clearStops());
        Expect.equal("size(true)", 1, x.size(true));
        x.restart();
        Expect.equal("at tick 0", 1, x.clearStops());
    }

    @Sentence(of = "Promise 9", says = "`stop`: index of the stop, from 0")
    static void stopNeedsAStop() {
        LineBuffers x = twoMachines();
        Expect.indexes(x, "stop", 0, k -> x.stop(k, 0));
        x.addStop(1, 1, 1);
        Expect.indexes(x, "stop", 1, k -> x.stop(k, 0));
        x.addRandomStops(0, 5, 10, 3, 39);
        Expect.indexes(x, "stop", 40, k -> x.stop(k, 0));
        x.clearStops();
        Expect.indexes(x, "stop", 0, k -> x.stop(k, 0));
    }

    @Sentence(of = "Promise 9", says = "Stops are in the order in which they were planned.")
    static void stopsStandInTheOrderOfPlanning() {
        LineBuffers x = twoMachines();
        x.addStop(1, 90, 3);
        x.addRandomStops(0, 1, 10, 5, 2);
        x.addStop(0, 1, 200);
        Expect.stop(x, 0, 1, 90, 3);
        Expect.stop(x, 1, 0, 19, 9);
        Expect.stop(x, 2, 0, 41, 6);
        Expect.stop(x, 3, 0, 1, 200);
    }

    @Sentence(of = "Promise 9", says = "`what`: 0 its machine, 1 its first tick, 2 its duration")
    static void stopTakesWhatFrom0To2() {
        LineBuffers x = twoMachines();
        x.addStop(1, 10000, 200);
        Expect.range(x, "what", 0, 2, what -> x.stop(0, what));
        Expect.stop(x, 0, 1, 10000, 200);
    }
}
