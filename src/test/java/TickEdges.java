/** The edges of the description's part A tick: a test per sentence. */
final class TickEdges {
    private TickEdges() {
    }

    @Sentence(of = "A tick", says = "The present tick, initially 0, increases by 1 to t.")
    static void theFirstTickIs1() {
        LineBuffers x = Expect.lineOf("m1,1,0;");
        Expect.equal("now()", 0, x.now());
        x.addStop(0, 1, 1);
        x.run(1);
        Expect.equal("now()", 1, x.now());
        Expect.machine(x, 0, 0, -1, 1, 4);
        x.run(1);
        Expect.equal("now()", 2, x.now());
        Expect.machine(x, 0, 0, -1, 1, 1);
    }

    @Sentence(of = "A tick", says = "Then the machines have their turns, from the last one to the first one.")
    static void aBottlePassesOneMachineATick() {
        LineBuffers x = Expect.lineOf("m1,1,9;m1,1,9;m1,1,9;m1,1,9;m1,1,9;");
        Expect.equal("run(4)", 0, x.run(4));
        Expect.equal("run(1)", 1, x.run(1));
        // The starved ticks are those before the first bottle came.
        for (int m = 0; m < 5; m++) {
            Expect.counts(x, m, 5 - m, m, 0, 0, 5 - m);
        }
    }

    @Sentence(of = "A tick", says = "A machine holds no bottle, or one;")
    static void aMachineHoldsOneBottle() {
        LineBuffers x = Expect.lineOf("m1,1,0;m20,20,0;");
        x.run(15);
        Expect.equal("inside()", 2, x.inside());
        Expect.counts(x, 0, 2, 0, 13, 0, 1);
    }

    @Sentence(of = "A tick", says = "If the machine is down at t, this is a down tick, and nothing else happens.")
    static void inADownTickTheRestStays() {
        LineBuffers x = Expect.lineOf("m9,9,0;");
        x.addStop(0, 2, 3);
        x.run(1);
        Expect.machine(x, 0, 0, 8, 1, 1);
        x.run(3);
        Expect.machine(x, 0, 0, 8, 1, 4);
        Expect.counts(x, 0, 1, 0, 0, 3, 0);
        x.run(1);
        Expect.machine(x, 0, 0, 7, 1, 1);
    }

    @Sentence(of = "A tick", says = "If the machine is down at t, this is a down tick, and nothing else happens.")
    static void inADownTickAFinishedBottleStays() {
        LineBuffers x = Expect.lineOf("m1,1,0;m2,2,0;");
        x.addStop(0, 3, 2);
        x.run(2);
        Expect.machine(x, 0, 0, 0, 1, 1);
        x.run(2);
        // The second machine put its bottle away in tick 3, and has got none.
        Expect.machine(x, 0, 0, 0, 1, 4);
        Expect.machine(x, 1, 0, -1, 1, 2);
        Expect.counts(x, 0, 2, 0, 0, 2, 1);
        x.run(1);
        Expect.machine(x, 1, 0, 2, 1, 2);
    }

    @Sentence(of = "A tick", says = "If the machine is down at t, this is a down tick, and nothing else happens.")
    static void inADownTickNoBottleIsTaken() {
        LineBuffers x = Expect.lineOf("m1,1,9;m1,1,0;");
        x.addStop(1, 1, 4);
        x.addStop(0, 4, 1);
        x.run(3);
        Expect.machine(x, 0, 3, -1, 1, 1);
        Expect.machine(x, 1, 0, -1, 1, 4);
        x.run(1);
        Expect.machine(x, 0, 3, -1, 1, 4);
        Expect.counts(x, 1, 0, 0, 0, 4, 0);
        Expect.counts(x, 0, 3, 0, 0, 1, 3);
    }

    @Sentence(of = "A tick", says = "There is room behind the last machine (the bottle is output then).")
    static void thereIsAlwaysRoomBehindTheLastMachine() {
        LineBuffers x = Expect.lineOf("m1,1,0;");
        x.run(1);
        Expect.machine(x, 0, 0, -1, 1, 1);
        Expect.equal("output()", 1, x.output());
        Expect.counts(x, 0, 1, 0, 0, 0, 1, 0);
    }

    @Sentence(of = "A tick", says = "then the bottle goes into the next machine at once,")
    static void aBottleGoesOnThoughThereAreNoPlaces() {
        LineBuffers x = Expect.lineOf("m2,2,0;m9,9,0;");
        x.run(1);
        Expect.machine(x, 1, 0, -1, 1, 2);
        x.run(1);
        Expect.machine(x, 0, 0, -1, 1, 1);
        Expect.machine(x, 1, 0, 9, 1, 2);
        Expect.counts(x, 0, 2, 0, 0, 0, 1);
    }

    @Sentence(of = "A tick", says = "then the bottle goes into the next machine at once,")
    static void aBottleGoesOnThoughThereArePlaces() {
        LineBuffers x = Expect.lineOf("m2,2,9;m9,9,0;");
        x.run(2);
        Expect.machine(x, 0, 0, -1, 1, 1);
        Expect.machine(x, 1, 0, 9, 1, 2);
    }

    @Sentence(of = "A tick", says = "Behind another one there is room if its buffer is empty,")
    static void aBottleDoesNotOvertakeThoseInTheBuffer() {
        LineBuffers x = Expect.lineOf("m1,1,3;m1,1,0;");
        x.addStop(1, 1, 2);
        x.run(2);
        Expect.machine(x, 0, 2, -1, 1, 1);
        x.run(1);
        // The second machine has taken one and put it away, and is empty at the first one's turn.
        Expect.machine(x, 1, 0, -1, 1, 1);
        Expect.machine(x, 0, 2, -1, 1, 1);
        x.setCapacity(0, 1);
        x.run(1);
        // One is in the buffer then, so there is no room, though the second machine is empty.
        Expect.machine(x, 1, 0, -1, 1, 1);
        Expect.machine(x, 0, 1, 0, 1, 1);
    }

    @Sentence(of = "A tick", says = "and the next machine holds no bottle")
    static void aBottleDoesNotGoIntoAMachineThatHoldsOne() {
        LineBuffers x = Expect.lineOf("m1,1,1;m5,5,0;");
        x.run(2);
        Expect.machine(x, 0, 1, -1, 1, 1);
        Expect.machine(x, 1, 0, 4, 1, 1);
        LineBuffers y = Expect.lineOf("m1,1,0;m1,1,0;m9,9,0;");
        y.run(4);
        // The second machine holds a finished bottle in tick 3 and 4.
        Expect.machine(y, 1, 0, 0, 1, 3);
        Expect.machine(y, 0, 0, 0, 1, 3);
    }

    @Sentence(of = "A tick", says = "and is not down at t:")
    static void aBottleDoesNotGoIntoAMachineThatIsDown() {
        LineBuffers x = Expect.lineOf("m1,1,1;m5,5,0;");
        x.addStop(1, 1, 1);
        x.run(1);
        Expect.machine(x, 0, 1, -1, 1, 1);
        Expect.machine(x, 1, 0, -1, 1, 4);
        LineBuffers y = Expect.lineOf("m1,1,0;m5,5,0;");
        y.addStop(1, 1, 1);
        y.run(1);
        Expect.machine(y, 0, 0, 0, 1, 1);
        y.run(1);
        Expect.machine(y, 1, 0, 5, 1, 2);
    }

    @Sentence(of = "A tick", says = "with the cycle of that machine's present speed as its rest "
            + "(which begins to fall at the next tick).")
    static void theRestOfABottleThatGoesOnFallsAtTheNextTick() {
        LineBuffers x = Expect.lineOf("m1,1,0;m9,4,0;");
        x.run(1);
        Expect.machine(x, 1, 0, 4, 1, 2);
        x.run(1);
        Expect.machine(x, 1, 0, 3, 1, 1);
    }

    @Sentence(of = "A tick", says = "with the cycle of that machine's present speed as its rest "
            + "(which begins to fall at the next tick).")
    static void aBottleThatGoesOnGetsTheSlowCycleOfASlowMachine() {
        LineBuffers x = Expect.lineOf("m1,1,0;m7,1,9;m20,20,0;h1,0,1;");
        // The second machine has put a bottle into its buffer in tick 3, and becomes slow in tick 4.
        x.run(3);
        Expect.machine(x, 1, 1, 1, 1, 1);
        x.run(1);
        Expect.machine(x, 1, 2, 7, 0, 1);
    }

    @Sentence(of = "A tick", says = "Otherwise there is room if the buffer has fewer bottles than its capacity:")
    static void thereIsRoomUpToTheCapacity() {
        LineBuffers x = Expect.lineOf("m1,1,3;m20,20,0;");
        x.run(3);
        Expect.machine(x, 0, 2, -1, 1, 1);
        x.run(1);
        Expect.machine(x, 0, 3, -1, 1, 1);
        x.run(1);
        Expect.machine(x, 0, 3, 0, 1, 1);
        x.setCapacity(0, 2);
        x.run(1);
        Expect.machine(x, 0, 3, 0, 1, 3);
        x.setCapacity(0, 3);
        x.run(1);
        Expect.machine(x, 0, 3, 0, 1, 3);
        x.setCapacity(0, 4);
        x.run(1);
        Expect.machine(x, 0, 4, 0, 1, 1);
    }

    @Sentence(of = "A tick", says = "3. If it holds a finished bottle, and there is room behind it, the bottle leaves it.")
    static void twoBottlesLeaveInOneTurn() {
        LineBuffers x = Expect.lineOf("m1,1,1;m20,20,0;");
        x.run(4);
        Expect.machine(x, 0, 1, 0, 1, 3);
        Expect.equal("bottles left", 2, x.count(0, 4));
        x.setCapacity(0, 9);
        x.run(1);
        // The waiting one, and a new one of one tick.
        Expect.machine(x, 0, 3, -1, 1, 1);
        Expect.equal("bottles left", 4, x.count(0, 4));
    }

    @Sentence(of = "A tick", says = "4. If it holds no bottle: the first machine takes a new one;")
    static void theFirstMachineTakesABottleInTheTurnInWhichOneLeft() {
        LineBuffers x = Expect.lineOf("m5,5,0;m20,20,0;");
        x.run(10);
        Expect.machine(x, 0, 0, 0, 1, 1);
        x.run(12);
        // The second machine got its bottle in tick 5, and puts it away in tick 25.
        Expect.machine(x, 0, 0, 0, 1, 3);
        x.run(3);
        Expect.machine(x, 1, 0, 20, 1, 1);
        Expect.machine(x, 0, 0, 4, 1, 1);
    }

    @Sentence(of = "A tick", says = "another one takes one from the buffer before it, if there is one.")
    static void anotherMachineTakesTheLastBottleOfTheBuffer() {
        LineBuffers x = Expect.lineOf("m1,1,2;m1,1,0;");
        x.addStop(1, 1, 2);
        x.addStop(0, 3, 9);
        x.run(2);
        Expect.machine(x, 0, 2, -1, 1, 1);
        x.run(1);
        Expect.machine(x, 0, 1, -1, 1, 4);
        x.run(1);
        Expect.machine(x, 0, 0, -1, 1, 4);
        Expect.machine(x, 1, 0, -1, 1, 1);
        x.run(1);
        Expect.machine(x, 0, 0, -1, 1, 4);
        Expect.machine(x, 1, 0, -1, 1, 2);
        Expect.equal("output()", 2, x.output());
    }

    @Sentence(of = "A tick",
            says = "A bottle that is taken has the cycle of the present speed (slow or fast) as its rest.")
    static void aBottleThatIsTakenHasTheCycleOfThePresentSpeed() {
        LineBuffers x = Expect.lineOf("m20,1,9;m9,3,9;m20,20,0;h1,0,1;");
        x.addStop(1, 1, 2);
        x.run(3);
        // A fast machine takes from the buffer; its rest has begun to fall.
        Expect.machine(x, 1, 0, 2, 1, 1);
        // In tick 5 it is finished, and goes on; the next one goes into the buffer in tick 8.
        x.run(5);
        Expect.machine(x, 1, 1, -1, 1, 1);
        x.run(1);
        Expect.machine(x, 1, 1, 8, 0, 1);
    }

    @Sentence(of = "A tick", says = "the rest decreases by 1, and this is a working tick;")
    static void theRestFallsByOneATick() {
        LineBuffers x = Expect.lineOf("m20,20,0;");
        for (int rest = 19; rest > 0; rest--) {
            x.run(1);
            Expect.machine(x, 0, 0, rest, 1, 1);
        }
        x.run(1);
        Expect.machine(x, 0, 0, -1, 1, 1);
        Expect.counts(x, 0, 20, 0, 0, 0, 1);
    }

    @Sentence(of = "A tick", says = "if the rest is 0 then, the bottle is finished, and, if there is room behind the machine,")
    static void aFinishedBottleLeavesInTheSameTurn() {
        LineBuffers x = Expect.lineOf("m2,2,1;m20,20,0;");
        x.run(2);
        Expect.machine(x, 0, 0, -1, 1, 1);
        x.run(2);
        Expect.machine(x, 0, 1, -1, 1, 1);
        x.run(2);
        Expect.machine(x, 0, 1, 0, 1, 1);
        Expect.counts(x, 0, 6, 0, 0, 0, 2);
    }

    @Sentence(of = "A tick", says = "Otherwise, if it holds a bottle (a finished one), this is a blocked tick;")
    static void aTurnWithAFinishedBottleIsABlockedTick() {
        LineBuffers x = Expect.lineOf("m1,1,0;m20,20,0;");
        x.run(3);
        Expect.machine(x, 0, 0, 0, 1, 3);
        Expect.counts(x, 0, 2, 0, 1, 0, 1);
        x.run(17);
        Expect.machine(x, 0, 0, 0, 1, 3);
        Expect.counts(x, 0, 2, 0, 18, 0, 1);
        // In tick 21 the second machine puts its bottle away before the first one's turn.
        x.run(1);
        Expect.machine(x, 0, 0, 0, 1, 1);
        Expect.counts(x, 0, 3, 0, 18, 0, 2);
    }

    @Sentence(of = "A tick", says = "if it holds none, a starved tick.")
    static void aTurnWithoutABottleIsAStarvedTick() {
        LineBuffers x = Expect.lineOf("m5,5,0;m1,1,0;");
        x.run(5);
        // It got a bottle behind its turn of tick 5.
        Expect.machine(x, 1, 0, 1, 1, 2);
        Expect.counts(x, 1, 0, 5, 0, 0, 0);
        x.run(2);
        Expect.machine(x, 1, 0, -1, 1, 2);
        Expect.counts(x, 1, 1, 6, 0, 0, 1);
    }

    @Sentence(of = "A tick", says = "(A turn that has become a working tick in step 5 is no blocked tick.)")
    static void aWorkingTickIsNoBlockedTick() {
        LineBuffers x = Expect.lineOf("m1,1,0;m1,1,0;");
        x.addStop(1, 1, 9);
        x.run(1);
        Expect.machine(x, 0, 0, 0, 1, 1);
        Expect.counts(x, 0, 1, 0, 0, 0, 0);
        x.run(1);
        Expect.machine(x, 0, 0, 0, 1, 3);
        Expect.counts(x, 0, 1, 0, 1, 0, 0);
        // In tick 10 its bottle goes on, and it works on another one.
        x.run(8);
        Expect.machine(x, 0, 0, 0, 1, 1);
        Expect.counts(x, 0, 2, 0, 8, 0, 1);
    }
}
