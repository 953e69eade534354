/** Promises 22 to 24: what the output would be with other capacities. */
final class WhatIfTest {
    private static final String UNSTEADY = "m3,2,4;m2,2,3;m4,3,0;h0,1,3;h1,0,2;";

    private WhatIfTest() {
    }

    private static LineBuffers unsteadyLine(int seed) {
        LineBuffers x = Expect.lineOf(UNSTEADY);
        for (int m = 0; m < 3; m++) {
            x.addRandomStops(m, seed + m, 15, 9, 13);
        }
        return x;
    }

    private static int reallyRun(int seed, int machine, int capacity, int ticks) {
        LineBuffers x = unsteadyLine(seed);
        x.setCapacity(machine, capacity);
        return x.run(ticks);
    }

    static void promise22AnswersWhatARunWould() {
        for (int seed = 0; seed < 20; seed++) {
            LineBuffers x = unsteadyLine(seed);
            x.run(77);
            long before = x.digest();
            for (int machine = 0; machine < 3; machine++) {
                for (int capacity = 0; capacity <= 40; capacity += 8) {
                    Expect.equal("outputWith", reallyRun(seed, machine, capacity, 400),
                            x.outputWith(machine, capacity, 400));
                }
            }
            Expect.equal("digest()", before, x.digest());
            Expect.equal("meanFill(0)", meanFillAfter77(seed), x.meanFill(0));
        }
    }

    private static double meanFillAfter77(int seed) {
        LineBuffers x = unsteadyLine(seed);
        x.run(77);
        return x.meanFill(0);
    }

    static void promise22BeginsAnewWithPresentSettings() {
        LineBuffers x = Expect.lineOf("m9,9,0;m1,1,0;");
        x.addStop(0, 1, 5);
        x.run(30);
        x.setMachine(0, 2, 2, 0, 40);
        // Down in the ticks 1 to 5, then a bottle in 7, 9, 11, each of which comes out a tick later.
        Expect.equal("outputWith(0, 0, 7)", 0, x.outputWith(0, 0, 7));
        Expect.equal("outputWith(0, 0, 8)", 1, x.outputWith(0, 0, 8));
        Expect.equal("outputWith(0, 0, 12)", 3, x.outputWith(0, 0, 12));
        Expect.equal("outputWith(1, 40, 12)", 3, x.outputWith(1, 40, 12));
        Expect.equal("outputWith(0, 40, 2000)", 997, x.outputWith(0, 40, 2000));
        Expect.equal("now()", 30, x.now());
    }

    static void promise22RefusesWrongArguments() {
        LineBuffers x = Expect.lineOf("m1,1,0;");
        Expect.thrown(Expect.INDEX, x, "machine 1", () -> x.outputWith(1, 41, 0));
        Expect.thrown(Expect.INDEX, x, "machine -1", () -> x.outputWith(-1, 0, 1));
        Expect.thrown(Expect.ARGUMENT, x, "capacity -1", () -> x.outputWith(0, -1, 1));
        Expect.thrown(Expect.ARGUMENT, x, "capacity 41", () -> x.outputWith(0, 41, 1));
        Expect.thrown(Expect.ARGUMENT, x, "ticks 0", () -> x.outputWith(0, 0, 0));
        Expect.thrown(Expect.ARGUMENT, x, "ticks 2001", () -> x.outputWith(0, 0, 2001));
    }

    static void promise23FindsTheSmallestCapacity() {
        for (int seed = 0; seed < 8; seed++) {
            LineBuffers x = unsteadyLine(seed);
            for (int machine = 0; machine < 3; machine++) {
                int[] outputs = new int[41];
                for (int capacity = 0; capacity <= 40; capacity++) {
                    outputs[capacity] = x.outputWith(machine, capacity, 300);
                }
                for (int wanted = Math.max(0, outputs[0] - 2); wanted <= outputs[0] + 30; wanted++) {
                    Expect.equal("capacityFor", firstAtLeast(outputs, wanted),
                            x.capacityFor(machine, 300, wanted));
                }
            }
        }
    }

    private static int firstAtLeast(int[] outputs, int wanted) {
        for (int capacity = 0; capacity < outputs.length; capacity++) {
            if (outputs[capacity] >= wanted) {
                return capacity;
            }
        }
        return LineBuffers.NONE;
    }

    static void promise23KnowsTheEdges() {
        LineBuffers x = Expect.lineOf("m1,1,7;m1,1,7;");
        x.addStop(1, 1, 5);
        x.addStop(0, 6, 40);
        // Five bottles are made before tick 6; one without a place stays in the first machine, which is down then.
        Expect.equal("wanted 0", 0, x.capacityFor(0, 30, 0));
        Expect.equal("wanted 5", 5, x.capacityFor(0, 30, 5));
        Expect.equal("wanted 4", 4, x.capacityFor(0, 30, 4));
        Expect.equal("wanted 6", LineBuffers.NONE, x.capacityFor(0, 30, 6));
        Expect.equal("wanted 2000", LineBuffers.NONE, x.capacityFor(0, 2000, 2000));
        Expect.equal("behind the last", 0, x.capacityFor(1, 30, 5));
        Expect.equal("too many behind the last", LineBuffers.NONE, x.capacityFor(1, 30, 6));
        Expect.settings(x, 0, 1, 1, 0, 40, 7);
    }

    static void promise23ReachesForty() {
        LineBuffers x = Expect.lineOf("m1,1,0;m1,1,0;");
        x.addStop(1, 1, 60);
        x.addStop(0, 61, 200);
        Expect.equal("wanted 39", 39, x.capacityFor(0, 200, 39));
        Expect.equal("wanted 40", 40, x.capacityFor(0, 200, 40));
        Expect.equal("wanted 41", LineBuffers.NONE, x.capacityFor(0, 200, 41));
    }

    static void promise23RefusesWrongArguments() {
        LineBuffers x = Expect.lineOf("m1,1,0;");
        Expect.thrown(Expect.INDEX, x, "machine 1", () -> x.capacityFor(1, 0, -1));
        Expect.thrown(Expect.INDEX, x, "machine -1", () -> x.capacityFor(-1, 1, 0));
        Expect.thrown(Expect.ARGUMENT, x, "ticks 0", () -> x.capacityFor(0, 0, 0));
        Expect.thrown(Expect.ARGUMENT, x, "ticks 2001", () -> x.capacityFor(0, 2001, 0));
        Expect.thrown(Expect.ARGUMENT, x, "wanted -1", () -> x.capacityFor(0, 1, -1));
        Expect.thrown(Expect.ARGUMENT, x, "wanted 2001", () -> x.capacityFor(0, 1, 2001));
        Expect.equal("wanted 2000", LineBuffers.NONE, x.capacityFor(0, 1, 2000));
    }

    static void promise24FindsTheBestBuffer() {
        int[] found = new int[3];
        for (int seed = 0; seed < 40; seed++) {
            LineBuffers x = unsteadyLine(seed);
            int first = x.outputWith(0, 6, 400);
            int second = x.outputWith(1, 5, 400);
            int due = second > first ? 1 : 0;
            Expect.equal("bestBuffer(400, 2)", due, x.bestBuffer(400, 2));
            found[due]++;
        }
        Expect.isTrue("both buffers are best at times", found[0] > 0 && found[1] > 0);
    }

    static void promise24TakesTheLowestOfSeveral() {
        LineBuffers x = Expect.lineOf("m1,1,3;m1,1,3;m1,1,3;");
        Expect.equal("bestBuffer(50, 1)", 0, x.bestBuffer(50, 1));
        Expect.equal("of output 0", 0, x.bestBuffer(1, 40));
    }

    static void promise24GivesFortyPlacesAtMost() {
        LineBuffers x = Expect.lineOf("m1,1,40;m1,1,39;m1,1,0;");
        x.addStop(2, 1, 200);
        x.addStop(0, 201, 200);
        // What is stored before tick 201 comes out: the places, and the bottle in the second machine.
        Expect.equal("outputWith(0, 40, 380)", 80, x.outputWith(0, 40, 380));
        Expect.equal("outputWith(1, 40, 380)", 81, x.outputWith(1, 40, 380));
        Expect.equal("bestBuffer(380, 1)", 1, x.bestBuffer(380, 1));
        Expect.equal("bestBuffer(380, 40)", 1, x.bestBuffer(380, 40));
        Expect.settings(x, 0, 1, 1, 0, 40, 40);
    }

    static void promise24LeavesTheLastBufferOut() {
        // With more places the first machine meets its high mark, and works slowly then.
        LineBuffers x = Expect.lineOf("m9,1,1;m2,2,0;h0,0,2;");
        Expect.isTrue("more places do harm", x.outputWith(0, 6, 50) < x.outputWith(1, 6, 50));
        Expect.equal("bestBuffer(50, 5)", 0, x.bestBuffer(50, 5));
    }

    static void promises22To24LeaveNothingBehind() {
        LineBuffers x = Expect.lineOf("m1,1,5;m2,2,5;");
        x.addStop(0, 3, 3);
        x.outputWith(0, 3, 30);
        Expect.append(x, "m4,4,4;");
        Expect.equal("parse()", 1, x.parse());
        Expect.equal("now()", 0, x.now());
        Expect.equal("size(true)", 0, x.size(true));
        Expect.settings(x, 0, 4, 4, 0, 40, 4);
        Expect.machine(x, 0, 0, LineBuffers.NONE, 1, 0);
        Expect.counts(x, 0, 0, 0, 0, 0, 0, 0);
    }

    static void promise24RefusesWrongArguments() {
        LineBuffers x = Expect.lineOf("m1,1,0;");
        Expect.thrown(Expect.STATE, x, "one machine", () -> x.bestBuffer(1, 1));
        Expect.thrown(Expect.ARGUMENT, x, "ticks 0", () -> x.bestBuffer(0, 1));
        Expect.thrown(Expect.ARGUMENT, x, "ticks 2001", () -> x.bestBuffer(2001, 1));
        Expect.thrown(Expect.ARGUMENT, x, "places 0", () -> x.bestBuffer(1, 0));
        Expect.thrown(Expect.ARGUMENT, x, "places 41", () -> x.bestBuffer(1, 41));
        LineBuffers none = new LineBuffers();
        Expect.thrown(Expect.STATE, none, "no machine", () -> none.bestBuffer(2000, 40));
        x.addMachine(1, 1, 1);
        Expect.equal("two machines", 0, x.bestBuffer(2000, 40));
    }
}
