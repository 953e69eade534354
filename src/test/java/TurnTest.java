/** Promise 15, and the turns of machines that it shows. */
final class TurnTest {
    private TurnTest() {
    }

    static void promise15RefusesWrongArguments() {
        LineBuffers x = Expect.lineOf("m1,1,1;");
        Expect.thrown(Expect.INDEX, x, "machine(1, 4)", () -> x.machine(1, 4));
        Expect.thrown(Expect.INDEX, x, "machine(-1, 0)", () -> x.machine(-1, 0));
        Expect.thrown(Expect.ARGUMENT, x, "machine(0, 4)", () -> x.machine(0, 4));
        Expect.thrown(Expect.ARGUMENT, x, "machine(0, -1)", () -> x.machine(0, -1));
    }

    static void speedFollowsTheMarks() {
        LineBuffers x = Expect.lineOf("m3,1,9;m15,15,0;h0,1,3;");
        x.run(1);
        Expect.machine(x, 0, 0, -1, 1, 1);
        x.run(3);
        Expect.machine(x, 0, 3, -1, 1, 1);
        x.run(1);
        Expect.machine(x, 0, 3, 2, 0, 1);
        // Between the marks the machine stays slow, and, once it is fast, stays fast.
        x.setMachine(0, 3, 1, 1, 4);
        x.run(1);
        Expect.machine(x, 0, 3, 1, 0, 1);
        x.setMachine(0, 3, 1, 3, 3);
        x.run(1);
        Expect.machine(x, 0, 4, -1, 1, 1);
        x.setMachine(0, 3, 1, 0, 5);
        x.run(1);
        Expect.machine(x, 0, 5, -1, 1, 1);
    }

    static void lowMarkGoesBeforeHighMark() {
        LineBuffers x = Expect.lineOf("m5,1,9;m9,9,0;h0,0,0;");
        x.run(1);
        Expect.machine(x, 0, 0, -1, 1, 1);
        x.run(2);
        Expect.machine(x, 0, 1, 4, 0, 1);
    }

    static void lastMachineRunsFast() {
        LineBuffers x = Expect.lineOf("m9,2,0;h0,0,0;");
        Expect.equal("run(8)", 4, x.run(8));
        Expect.machine(x, 0, 0, -1, 1, 1);
        Expect.counts(x, 0, 8, 0, 0, 0, 4, 0);
    }

    static void speedIsChosenInDownTicks() {
        LineBuffers x = Expect.lineOf("m4,1,3;m2,2,0;h0,0,1;");
        x.addStop(0, 4, 1);
        x.run(3);
        Expect.machine(x, 0, 1, 3, 0, 1);
        x.run(1);
        Expect.machine(x, 0, 0, 3, 1, 4);
        Expect.machine(x, 1, 0, 1, 1, 1);
        x.run(1);
        Expect.machine(x, 0, 0, 2, 1, 1);
    }

    static void bottleGoesOnAtOnce() {
        LineBuffers x = Expect.lineOf("m1,1,0;m4,4,0;");
        x.run(1);
        Expect.machine(x, 0, 0, -1, 1, 1);
        Expect.machine(x, 1, 0, 4, 1, 2);
        x.run(1);
        Expect.machine(x, 0, 0, 0, 1, 1);
        Expect.machine(x, 1, 0, 3, 1, 1);
        x.run(1);
        Expect.machine(x, 0, 0, 0, 1, 3);
    }

    static void bottleGoesOnWithTheNextOnesPresentSpeed() {
        // The middle machine becomes slow in tick 4, by the bottle that it put into its buffer in tick 3.
        LineBuffers x = Expect.lineOf("m1,1,0;m7,1,9;m20,20,0;h1,0,1;");
        x.run(3);
        Expect.machine(x, 1, 1, 1, 1, 1);
        x.run(1);
        Expect.machine(x, 1, 2, 7, 0, 1);
    }

    static void bottleDoesNotPassAMachineThatIsDown() {
        LineBuffers x = Expect.lineOf("m1,1,1;m1,1,0;");
        x.addStop(1, 1, 2);
        x.run(1);
        Expect.machine(x, 0, 1, -1, 1, 1);
        Expect.machine(x, 1, 0, -1, 1, 4);
        x.run(1);
        Expect.machine(x, 0, 1, 0, 1, 1);
        x.run(1);
        // The last one takes from the buffer and puts that bottle away; then the waiting one passes to it.
        Expect.equal("output()", 1, x.output());
        Expect.machine(x, 1, 0, 1, 1, 1);
    }

    static void waitsInAMachineWithoutPlaces() {
        LineBuffers x = Expect.lineOf("m1,1,0;m1,1,0;");
        x.addStop(1, 1, 2);
        x.run(2);
        Expect.machine(x, 0, 0, 0, 1, 3);
        Expect.counts(x, 0, 1, 0, 1, 0, 0, 2);
        x.run(1);
        // Starved at its own turn, for that comes first; then it gets the bottle that waited.
        Expect.machine(x, 1, 0, 1, 1, 2);
        Expect.machine(x, 0, 0, 0, 1, 1);
    }

    static void stopHoldsFromItsFirstTickToItsLast() {
        LineBuffers x = Expect.lineOf("m9,9,0;");
        x.addStop(0, 3, 2);
        x.addStop(0, 4, 1);
        x.addStop(0, 6, 1);
        int[] latest = {1, 1, 4, 4, 1, 4, 1};
        int[] rest = {8, 7, 7, 7, 6, 6, 5};
        for (int t = 0; t < latest.length; t++) {
            x.run(1);
            Expect.machine(x, 0, 0, rest[t], 1, latest[t]);
        }
        Expect.counts(x, 0, 4, 0, 0, 3, 0, 0);
    }

    static void finishedBottleStaysInADownMachine() {
        LineBuffers x = Expect.lineOf("m1,1,0;m5,5,0;");
        x.addStop(0, 6, 2);
        x.run(6);
        Expect.machine(x, 0, 0, 0, 1, 4);
        Expect.machine(x, 1, 0, -1, 1, 1);
        x.run(1);
        Expect.machine(x, 1, 0, -1, 1, 2);
        x.run(1);
        Expect.machine(x, 1, 0, 5, 1, 2);
        Expect.machine(x, 0, 0, 0, 1, 1);
    }

    static void stopsActTheSameInOneRunOrInMany() {
        LineBuffers one = Expect.lineOf("m3,2,4;m2,2,3;m4,3,0;h0,1,3;");
        LineBuffers many = Expect.lineOf("m3,2,4;m2,2,3;m4,3,0;h0,1,3;");
        for (int m = 0; m < 3; m++) {
            one.addRandomStops(m, 17 + m, 9, 4, 13);
            many.addRandomStops(m, 17 + m, 9, 4, 13);
        }
        one.run(300);
        for (int k = 0; k < 300; k++) {
            many.run(1);
        }
        for (int m = 0; m < 3; m++) {
            for (int what = 0; what < 6; what++) {
                Expect.equal("count", one.count(m, what), many.count(m, what));
            }
        }
        Expect.isTrue("some ticks are down", one.count(1, 3) > 0);
    }
}
