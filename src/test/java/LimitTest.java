/** Promises 19 to 21: the bound, the machine that determines it, and the limiting machine. */
final class LimitTest {
    private LimitTest() {
    }

    static void promise19TakesTheSmallestNumber() {
        LineBuffers x = Expect.lineOf("m9,3,0;m9,4,0;m20,2,0;");
        Expect.equal("bound(3)", 0, x.bound(3));
        Expect.equal("bound(4)", 1, x.bound(4));
        Expect.equal("bound(99)", 24, x.bound(99));
        Expect.equal("bound(10000)", 2500, x.bound(10000));
    }

    static void promise19LeavesDownTicksOut() {
        LineBuffers x = Expect.lineOf("m1,1,0;m2,2,0;");
        x.addStop(0, 11, 20);
        x.addStop(0, 21, 20);
        x.addStop(0, 15, 3);
        x.addStop(0, 60, 1);
        x.addStop(1, 100, 200);
        // Down at the ticks 11 to 40 and 60, so 69 of 100 are left; the second machine has 99.
        Expect.equal("bound(100)", 49, x.bound(100));
        Expect.equal("slowest(100)", 1, x.slowest(100));
        Expect.equal("bound(10)", 5, x.bound(10));
        x.setMachine(0, 5, 3, 0, 40);
        Expect.equal("bound(100)", 23, x.bound(100));
        Expect.equal("slowest(100)", 0, x.slowest(100));
        Expect.equal("bound(10)", 3, x.bound(10));
        Expect.equal("bound(11)", 3, x.bound(11));
        Expect.equal("bound(42)", 4, x.bound(42));
        Expect.equal("bound(41)", 3, x.bound(41));
    }

    static void promise19CountsStopsOfAllTimes() {
        LineBuffers x = Expect.lineOf("m1,1,0;");
        x.addStop(0, 2, 5);
        x.addStop(0, 9999, 200);
        x.run(50);
        Expect.equal("bound(10)", 5, x.bound(10));
        Expect.equal("bound(10000)", 9993, x.bound(10000));
        Expect.equal("bound(9998)", 9993, x.bound(9998));
        Expect.equal("now()", 50, x.now());
    }

    static void promise19WorksWithFortyStops() {
        LineBuffers x = Expect.lineOf("m1,1,0;m20,20,0;");
        x.setMachine(1, 1, 1, 0, 0);
        for (int k = 0; k < 40; k++) {
            x.addStop(k % 2, 3 + 4 * k, 1);
        }
        // Each machine is down at twenty ticks, the first one first.
        Expect.equal("bound(160)", 140, x.bound(160));
        Expect.equal("slowest(160)", 0, x.slowest(160));
        Expect.equal("bound(3)", 2, x.bound(3));
        Expect.equal("bound(200)", 180, x.bound(200));
        Expect.equal("slowest(200)", 0, x.slowest(200));
    }

    static void promises19To21RefuseWrongArguments() {
        LineBuffers x = new LineBuffers();
        Expect.thrown(Expect.STATE, x, "bound(1)", () -> x.bound(1));
        Expect.thrown(Expect.STATE, x, "slowest(1)", () -> x.slowest(1));
        Expect.thrown(Expect.STATE, x, "limiting()", x::limiting);
        Expect.thrown(Expect.ARGUMENT, x, "bound(0) of none", () -> x.bound(0));
        Expect.thrown(Expect.ARGUMENT, x, "slowest(0) of none", () -> x.slowest(0));
        x.addMachine(1, 1, 1);
        Expect.thrown(Expect.ARGUMENT, x, "bound(0)", () -> x.bound(0));
        Expect.thrown(Expect.ARGUMENT, x, "bound(10001)", () -> x.bound(10001));
        Expect.thrown(Expect.ARGUMENT, x, "slowest(0)", () -> x.slowest(0));
        Expect.thrown(Expect.ARGUMENT, x, "slowest(10001)", () -> x.slowest(10001));
    }

    static void promises19To21WorkWithOneMachine() {
        LineBuffers x = Expect.lineOf("m3,3,0;");
        x.run(7);
        Expect.equal("bound(7)", 2, x.bound(7));
        Expect.equal("slowest(7)", 0, x.slowest(7));
        Expect.equal("limiting()", 0, x.limiting());
    }

    static void promise20FindsTheFewestIdleTicks() {
        LineBuffers x = Expect.lineOf("m1,1,1;m3,3,5;m1,1,0;");
        Expect.equal("of several the lowest", 0, x.limiting());
        x.run(50);
        Expect.equal("limiting()", 1, x.limiting());
    }

    static void promise20CountsStarvedAndBlockedTicksTogether() {
        LineBuffers x = Expect.lineOf("m1,1,1;m1,1,0;");
        x.addStop(1, 1, 5);
        x.addStop(0, 7, 20);
        x.run(26);
        Expect.counts(x, 0, 3, 0, 3, 20, 3, 7);
        Expect.counts(x, 1, 3, 18, 0, 5, 3, 0);
        Expect.equal("limiting()", 0, x.limiting());
    }

    static void promise20DoesNotCountDownTicks() {
        LineBuffers x = Expect.lineOf("m1,1,9;m1,1,0;");
        x.addStop(1, 1, 5);
        x.run(5);
        // The first machine works five times, the second one is down: none of both is idle.
        Expect.equal("limiting()", 0, x.limiting());
        x.addStop(0, 6, 20);
        x.run(12);
        // Now the first machine is down, and the second one has taken its five bottles, and is starved.
        Expect.equal("limiting()", 0, x.limiting());
        x.restart();
        x.setCapacity(0, 0);
        x.run(5);
        // Blocked in the ticks 2 to 5.
        Expect.equal("limiting()", 1, x.limiting());
    }

    static void promise21TakesTheLowestOfSeveral() {
        LineBuffers x = Expect.lineOf("m9,5,0;m9,4,0;m9,4,0;m5,5,0;");
        Expect.equal("slowest(100)", 0, x.slowest(100));
        Expect.equal("slowest(3)", 0, x.slowest(3));
        Expect.equal("slowest(4)", 0, x.slowest(4));
        x.setMachine(0, 1, 1, 0, 0);
        Expect.equal("slowest(100)", 3, x.slowest(100));
        Expect.equal("slowest(4)", 3, x.slowest(4));
        // Rounded down, 7 ticks give 1 of each but the first.
        Expect.equal("slowest(7)", 1, x.slowest(7));
        Expect.equal("bound(7)", 1, x.bound(7));
    }
}
