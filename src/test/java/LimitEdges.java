/** The edges of the description's part Limits, and of the promises 19 to 21: a test per sentence. */
final class LimitEdges {
    private LimitEdges() {
    }

    @Sentence(of = "Limits", says = "The bound for T ticks is the smallest one, over all machines,")
    static void theBoundIsOfAnyMachineFromFirstToLast() {
        String[] texts = {"m3,3,0;m2,2,0;m2,2,0;", "m2,2,0;m3,3,0;m2,2,0;", "m2,2,0;m2,2,0;m3,3,0;"};
        for (int m = 0; m < 3; m++) {
            LineBuffers x = Expect.lineOf(texts[m]);
            Expect.equal("bound(30)", 10, x.bound(30));
            Expect.equal("slowest(30)", m, x.slowest(30));
        }
        Expect.equal("bound(30) of one", 10, Expect.lineOf("m3,3,0;").bound(30));
    }

    @Sentence(of = "Limits", says = "(ticks of 1 to T at which it is not down)")
    static void downTicksCountFrom1ToT() {
        LineBuffers x = Expect.lineOf("m1,1,0;");
        x.addStop(0, 1, 1);
        x.addStop(0, 10, 5);
        int[] due = {0, 1, 2, 3, 4, 5, 6, 7, 8, 8, 8, 8, 8, 8, 9, 10};
        for (int ticks = 1; ticks <= due.length; ticks++) {
            Expect.equal("bound(" + ticks + ")", due[ticks - 1], x.bound(ticks));
        }
    }

    @Sentence(of = "Limits", says = "(ticks of 1 to T at which it is not down)")
    static void ticksOfSeveralStopsCountOnce() {
        LineBuffers x = Expect.lineOf("m1,1,0;m1,1,0;");
        x.addStop(0, 4, 6);
        x.addStop(0, 6, 2);
        x.addStop(0, 4, 6);
        x.addStop(0, 9, 3);
        x.addStop(1, 5, 1);
        // Down in the ticks 4 to 11.
        Expect.equal("bound(20)", 12, x.bound(20));
        Expect.equal("slowest(20)", 0, x.slowest(20));
        x.addStop(0, 12, 1);
        Expect.equal("bound(20)", 11, x.bound(20));
    }

    @Sentence(of = "Limits", says = "(ticks of 1 to T at which it is not down)")
    static void theTicksOfAllFortyStopsCount() {
        LineBuffers x = Expect.lineOf("m1,1,0;");
        for (int k = 1; k <= 40; k++) {
            x.addStop(0, 10000 - 100 * k, 50);
        }
        // The last stop ends with tick 9949, the first one begins at 6000.
        Expect.equal("bound(5999)", 5999, x.bound(5999));
        Expect.equal("bound(6000)", 5999, x.bound(6000));
        Expect.equal("bound(9950)", 7950, x.bound(9950));
        Expect.equal("bound(10000)", 8000, x.bound(10000));
    }

    @Sentence(of = "Limits", says = "/ (fast cycle), each rounded down.")
    static void theBoundIsRoundedDown() {
        LineBuffers x = Expect.lineOf("m20,7,0;");
        int[][] due = {{6, 0}, {7, 1}, {13, 1}, {14, 2}, {10000, 1428}};
        for (int[] pair : due) {
            Expect.equal("bound(" + pair[0] + ")", pair[1], x.bound(pair[0]));
        }
        x.addStop(0, 3, 1);
        Expect.equal("bound(7)", 0, x.bound(7));
        Expect.equal("bound(8)", 1, x.bound(8));
    }

    @Sentence(of = "Limits", says = "is the one with the fewest starved and blocked ticks together,")
    static void starvedAndBlockedTicksCountTogether() {
        // The first machine is blocked most of the time, the third one starved; the middle one works from tick 2 on.
        LineBuffers x = Expect.lineOf("m1,1,0;m9,9,0;m1,1,0;");
        x.run(40);
        Expect.equal("limiting()", 1, x.limiting());
        LineBuffers y = Expect.lineOf("m1,1,1;m1,1,0;");
        y.addStop(1, 1, 5);
        y.addStop(0, 7, 20);
        y.run(26);
        // Blocked in 3 ticks, never starved; starved in 18, never blocked; down in 20 and in 5 ticks.
        Expect.counts(y, 0, 3, 0, 3, 20);
        Expect.counts(y, 1, 3, 18, 0, 5);
        Expect.equal("limiting()", 0, y.limiting());
    }

    @Sentence(of = "Limits", says = "is the one with the fewest starved and blocked ticks together,")
    static void downTicksAreNeitherStarvedNorBlocked() {
        LineBuffers x = Expect.lineOf("m1,1,3;m1,1,0;");
        x.addStop(1, 1, 9);
        x.run(9);
        Expect.counts(x, 0, 4, 0, 5, 0);
        Expect.counts(x, 1, 0, 0, 0, 9);
        Expect.equal("limiting()", 1, x.limiting());
    }

    @Sentence(of = "Limits", says = "of several the one with the lowest number.")
    static void ofSeveralLimitingMachinesTheLowest() {
        LineBuffers x = Expect.lineOf("m3,3,9;m1,1,9;m1,1,9;");
        Expect.equal("at tick 0", 0, x.limiting());
        x.addStop(0, 1, 4);
        x.addStop(1, 1, 3);
        x.addStop(2, 1, 3);
        x.run(3);
        Expect.equal("all down", 0, x.limiting());
        x.restart();
        x.clearStops();
        x.addStop(1, 1, 3);
        x.addStop(2, 1, 3);
        x.setCapacity(0, 0);
        x.setMachine(0, 1, 1, 0, 40);
        x.run(3);
        // The first one is blocked in two ticks; the two others are not idle at all.
        Expect.equal("of two the lowest", 1, x.limiting());
    }

    @Sentence(of = "Promise 19", says = "`ticks`: T, 1 to 10000")
    static void boundTakes1To10000Ticks() {
        LineBuffers x = Expect.lineOf("m1,1,0;");
        Expect.range(x, "ticks", 1, 10000, x::bound);
        Expect.equal("bound(1)", 1, x.bound(1));
        Expect.equal("bound(10000)", 10000, x.bound(10000));
        x.addStop(0, 10000, 200);
        Expect.equal("bound(9999)", 9999, x.bound(9999));
        Expect.equal("bound(10000)", 9999, x.bound(10000));
    }

    @Sentence(of = "Promise 19", says = "Throws `IllegalStateException` if there is no machine")
    static void boundNeedsAMachine() {
        LineBuffers x = new LineBuffers();
        Expect.thrown(Expect.STATE, x, "bound(1)", () -> x.bound(1));
        Expect.thrown(Expect.STATE, x, "bound(10000)", () -> x.bound(10000));
        x.addMachine(1, 1, 0);
        Expect.equal("bound(1)", 1, x.bound(1));
    }

    @Sentence(of = "Promise 19", says = "Returns the bound.")
    static void theBoundDoesNotDependOnThePresentTick() {
        LineBuffers x = Expect.lineOf("m9,2,0;m2,2,0;h0,0,0;");
        x.addStop(0, 3, 4);
        int before = x.bound(20);
        Expect.equal("bound(20)", 8, before);
        x.run(100);
        // Past stops count, slow cycles do not.
        Expect.equal("bound(20)", 8, x.bound(20));
        Expect.equal("bound(100)", 48, x.bound(100));
    }

    @Sentence(of = "Promise 20", says = "Throws `IllegalStateException` if there is no machine")
    static void limitingNeedsAMachine() {
        LineBuffers x = new LineBuffers();
        Expect.thrown(Expect.STATE, x, "limiting()", x::limiting);
        x.addMachine(1, 1, 0);
        Expect.equal("limiting()", 0, x.limiting());
        x.undo();
        Expect.thrown(Expect.STATE, x, "limiting()", x::limiting);
    }

    @Sentence(of = "Promise 20", says = "Returns the limiting machine.")
    static void theLastMachineMayLimit() {
        LineBuffers x = Expect.lineOf("m1,1,1;m1,1,1;m1,1,1;m1,1,1;m1,1,1;m1,1,1;m1,1,1;m9,9,0;");
        x.run(300);
        Expect.equal("limiting()", 7, x.limiting());
    }

    @Sentence(of = "Promise 21", says = "the one with the smallest number in it, of several the one with the lowest number.")
    static void ofSeveralSlowestMachinesTheLowest() {
        LineBuffers x = Expect.lineOf("m1,1,0;m9,4,0;m9,4,0;m5,5,0;");
        // In 15 ticks 3, 3 and 3 by the slower ones, in 16 ticks 4, 4 and 3.
        Expect.equal("slowest(15)", 1, x.slowest(15));
        Expect.equal("slowest(16)", 3, x.slowest(16));
        // Four of them have 0 of 0: the lowest.
        x.addStop(0, 1, 200);
        Expect.equal("slowest(1)", 0, x.slowest(1));
        Expect.equal("bound(1)", 0, x.bound(1));
        x.clearStops();
        Expect.equal("slowest(1)", 1, x.slowest(1));
    }

    @Sentence(of = "Promise 21", says = "`ticks`: T, 1 to 10000")
    static void slowestTakes1To10000Ticks() {
        LineBuffers x = Expect.lineOf("m1,1,0;m1,1,0;");
        Expect.range(x, "ticks", 1, 10000, x::slowest);
        x.addStop(1, 10000, 1);
        Expect.equal("slowest(9999)", 0, x.slowest(9999));
        Expect.equal("slowest(10000)", 1, x.slowest(10000));
    }

    @Sentence(of = "Promise 21", says = "Throws `IllegalStateException` if there is no machine")
    static void slowestNeedsAMachine() {
        LineBuffers x = new LineBuffers();
        Expect.thrown(Expect.STATE, x, "slowest(1)", () -> x.slowest(1));
        x.addMachine(1, 1, 0);
        Expect.equal("slowest(1)", 0, x.slowest(1));
    }
}
