/** Promises 10 to 13 and 16 to 18: ticks that pass, what has come out, counts, and what is inside. */
final class TimeTest {
    private TimeTest() {
    }

    static void promise10RunsAndAnswersTheOutput() {
        LineBuffers x = Expect.lineOf("m3,2,0;");
        Expect.equal("run(5)", 2, x.run(5));
        Expect.equal("run(1)", 1, x.run(1));
        Expect.equal("run(0)", 0, x.run(0));
        Expect.equal("now()", 6, x.now());
        Expect.equal("output()", 3, x.output());
        Expect.equal("undo()", 3, x.undo());
        Expect.equal("undo()", 2, x.undo());
        Expect.equal("now()", 5, x.now());
        Expect.equal("output()", 2, x.output());
    }

    static void promise10RefusesWrongArguments() {
        LineBuffers x = new LineBuffers();
        Expect.thrown(Expect.ARGUMENT, x, "run(-1)", () -> x.run(-1));
        Expect.thrown(Expect.ARGUMENT, x, "run(2001)", () -> x.run(2001));
        Expect.thrown(Expect.STATE, x, "run(0) without machines", () -> x.run(0));
        Expect.thrown(Expect.STATE, x, "run(1) without machines", () -> x.run(1));
    }

    static void promise10EndsAtTick10000() {
        LineBuffers x = Expect.lineOf("m20,20,0;");
        for (int k = 0; k < 4; k++) {
            Expect.equal("run(2000)", 100, x.run(2000));
        }
        x.run(1999);
        Expect.thrown(Expect.STATE, x, "run(2)", () -> x.run(2));
        Expect.thrown(Expect.ARGUMENT, x, "run(2001)", () -> x.run(2001));
        Expect.equal("run(1)", 1, x.run(1));
        Expect.equal("now()", 10000, x.now());
        Expect.equal("run(0)", 0, x.run(0));
        Expect.thrown(Expect.STATE, x, "run(1)", () -> x.run(1));
    }

    static void promise11BeginsAnew() {
        LineBuffers x = Expect.lineOf("m2,1,3;m9,9,4;h0,0,1;");
        x.addStop(1, 4, 2);
        x.run(12);
        long before = x.digest();
        Expect.equal("restart()", 12, x.restart());
        Expect.equal("now()", 0, x.now());
        Expect.equal("output()", 0, x.output());
        Expect.equal("inside()", 0, x.inside());
        for (int m = 0; m < 2; m++) {
            Expect.machine(x, m, 0, LineBuffers.NONE, 1, 0);
            Expect.counts(x, m, 0, 0, 0, 0, 0, 0);
        }
        Expect.settings(x, 0, 2, 1, 0, 1, 3);
        Expect.stop(x, 0, 1, 4, 2);
        x.run(1);
        Expect.equal("meanFill(0)", 0.0, x.meanFill(0));
        x.run(11);
        x.undo();
        x.undo();
        x.undo();
        // One state is saved now; there were three.
        Expect.equal("digest() after undo()", before - 2, x.digest());
        x.restart();
        Expect.equal("restart() at tick 0", 0, x.restart());
    }

    static void promise11WorksWithoutMachines() {
        LineBuffers x = new LineBuffers();
        Expect.equal("restart()", 0, x.restart());
        Expect.equal("undo()", 0, x.undo());
    }

    static void promise12And13TellTickAndOutput() {
        LineBuffers x = Expect.lineOf("m1,1,0;m1,1,0;");
        x.run(4);
        Expect.equal("now()", 4, x.now());
        // The second machine works from tick 2 on.
        Expect.equal("output()", 3, x.output());
        x.restart();
        Expect.equal("now()", 0, x.now());
        Expect.equal("output()", 0, x.output());
    }

    static void promise16CountsTicks() {
        LineBuffers x = Expect.lineOf("m1,1,1;m3,3,5;");
        x.addStop(1, 4, 2);
        x.run(9);
        // The second machine: starved in tick 1, works in 2, 3, 6 to 9, is down in 4 and 5.
        Expect.counts(x, 1, 6, 1, 0, 2, 2, 0);
        // The first machine works in 1, 2 and 3, and in 7, when a place has become free.
        Expect.counts(x, 0, 4, 0, 5, 0, 3, 8);
        Expect.equal("output()", 2, x.output());
        Expect.machine(x, 0, 1, 0, 1, 3);
    }

    static void promise16RefusesWrongArguments() {
        LineBuffers x = Expect.lineOf("m1,1,1;");
        Expect.thrown(Expect.INDEX, x, "count(1, 6)", () -> x.count(1, 6));
        Expect.thrown(Expect.INDEX, x, "count(-1, 0)", () -> x.count(-1, 0));
        Expect.thrown(Expect.ARGUMENT, x, "count(0, 6)", () -> x.count(0, 6));
        Expect.thrown(Expect.ARGUMENT, x, "count(0, -1)", () -> x.count(0, -1));
    }

    static void promise16FullWithoutPlaces() {
        LineBuffers x = Expect.lineOf("m1,1,0;m1,1,0;");
        x.run(6);
        Expect.equal("a buffer of no places is full", 6, x.count(0, 5));
        Expect.equal("the last one is never", 0, x.count(1, 5));
    }

    static void promise17TellsTheMeanFill() {
        LineBuffers x = Expect.lineOf("m1,1,5;m20,20,0;");
        Expect.equal("at tick 0", 0.0, x.meanFill(0));
        x.run(4);
        // The fills at the ends of the ticks are 0, 1, 2, 3.
        Expect.equal("meanFill(0)", 1.5, x.meanFill(0));
        Expect.equal("meanFill(1)", 0.0, x.meanFill(1));
        x.run(3);
        Expect.equal("meanFill(0)", (double) 20 / (double) 7, x.meanFill(0));
        x.undo();
        Expect.equal("meanFill(0) after undo()", 1.5, x.meanFill(0));
        x.restart();
        Expect.equal("after restart()", 0.0, x.meanFill(0));
        Expect.thrown(Expect.INDEX, x, "meanFill(2)", () -> x.meanFill(2));
        Expect.thrown(Expect.INDEX, x, "meanFill(-1)", () -> x.meanFill(-1));
    }

    static void promise18CountsWhatIsInside() {
        LineBuffers x = Expect.lineOf("m1,1,5;m20,20,0;");
        x.run(1);
        Expect.equal("inside() after tick 1", 1, x.inside());
        x.run(9);
        // Five in the buffer, one finished in the first machine, one in the second.
        Expect.equal("inside() after tick 10", 7, x.inside());
        x.run(11);
        Expect.equal("one has come out", 6, x.inside());
    }
}
