/** The edges of the description's part Speed: a test per sentence. */
final class SpeedEdges {
    private SpeedEdges() {
    }

    /** Cycles 6 and 1, and a next machine that is busy for long, so that a bottle is put in the buffer each tick. */
    private static LineBuffers filling(String marks) {
        return Expect.lineOf("m6,1,40;m20,20,0;h0," + marks + ";");
    }

    @Sentence(of = "Speed", says = "Each machine runs fast or slow, initially fast.")
    static void initiallyEachMachineRunsFast() {
        LineBuffers x = Expect.lineOf("m9,2,3;m9,2,3;m9,2,3;h0,0,0;h1,40,40;");
        x.addMachine(9, 2, 3);
        for (int m = 0; m < 4; m++) {
            Expect.equal("machine(" + m + ", 2)", 1, x.machine(m, 2));
        }
        x.run(1);
        Expect.equal("machine(0, 1)", 1, x.machine(0, 1));
    }

    @Sentence(of = "Speed", says = "At each tick, at its turn (see below), before anything else:")
    static void theSpeedIsChosenBeforeItsOwnBottleLeaves() {
        LineBuffers x = filling("0,1");
        x.run(2);
        // The fast machine has put the first bottle in, and is slow from its next turn on.
        Expect.machine(x, 0, 1, -1, 1, 1);
        x.run(1);
        Expect.machine(x, 0, 1, 5, 0, 1);
    }

    @Sentence(of = "Speed", says = "At each tick, at its turn (see below), before anything else:")
    static void theSpeedIsChosenBehindTheNextMachinesTurn() {
        LineBuffers x = Expect.lineOf("m6,1,1;m3,3,0;h0,0,1;");
        x.run(4);
        // In tick 2 it has put a bottle in; in tick 3 it has taken one slowly.
        Expect.machine(x, 0, 1, 4, 0, 1);
        x.run(1);
        // In tick 5 the next machine has taken the bottle first, so the buffer is empty at its turn.
        Expect.machine(x, 0, 0, 3, 1, 1);
    }

    @Sentence(of = "Speed", says = "At each tick, at its turn (see below), before anything else:")
    static void theSpeedIsChosenInADownTick() {
        LineBuffers x = filling("0,1");
        x.addStop(0, 3, 1);
        x.run(3);
        Expect.machine(x, 0, 1, -1, 0, 4);
        x.setMachine(0, 6, 1, 1, 1);
        x.addStop(0, 4, 1);
        x.run(1);
        Expect.machine(x, 0, 1, -1, 1, 4);
    }

    @Sentence(of = "Speed", says = "if the machine is the last one, it runs fast;")
    static void theLastMachineRunsFast() {
        LineBuffers x = Expect.lineOf("m1,1,9;m9,3,0;h1,0,0;");
        for (int k = 0; k < 30; k++) {
            x.run(1);
            Expect.equal("machine(1, 2)", 1, x.machine(1, 2));
        }
        // From tick 2 on three ticks a bottle.
        Expect.equal("output()", 9, x.output());
    }

    @Sentence(of = "Speed", says = "otherwise, if the buffer behind it has at most as many bottles as the low mark,"
            + " it runs fast from now on;")
    static void withTheLowMarkAMachineBecomesFast() {
        LineBuffers x = filling("0,3");
        x.run(5);
        Expect.machine(x, 0, 3, 5, 0, 1);
        x.setMachine(0, 6, 1, 2, 4);
        x.run(1);
        Expect.equal("above the low mark", 0, x.machine(0, 2));
        x.setMachine(0, 6, 1, 3, 4);
        x.run(1);
        Expect.equal("at the low mark", 1, x.machine(0, 2));
        x.setMachine(0, 6, 1, 0, 3);
        x.run(1);
        Expect.equal("slow again", 0, x.machine(0, 2));
        x.setMachine(0, 6, 1, 40, 40);
        x.run(1);
        Expect.equal("below the low mark", 1, x.machine(0, 2));
    }

    @Sentence(of = "Speed", says = "otherwise, if it has at least as many as the high mark, it runs slow;")
    static void withTheHighMarkAMachineBecomesSlow() {
        LineBuffers x = filling("0,3");
        x.run(4);
        Expect.machine(x, 0, 3, -1, 1, 1);
        x.setMachine(0, 6, 1, 0, 4);
        x.run(1);
        Expect.machine(x, 0, 4, -1, 1, 1);
        x.setMachine(0, 6, 1, 0, 4);
        x.run(1);
        Expect.machine(x, 0, 4, 5, 0, 1);
        LineBuffers y = filling("0,3");
        y.run(4);
        y.setMachine(0, 6, 1, 0, 1);
        y.run(1);
        Expect.machine(y, 0, 3, 5, 0, 1);
    }

    @Sentence(of = "Speed", says = "otherwise its speed stays.")
    static void betweenTheMarksTheSpeedStays() {
        LineBuffers x = filling("0,4");
        for (int fill = 1; fill <= 4; fill++) {
            x.run(1);
            Expect.machine(x, 0, fill - 1, -1, 1, 1);
        }
        x.run(2);
        Expect.machine(x, 0, 4, 5, 0, 1);
        x.setMachine(0, 6, 1, 3, 5);
        for (int rest = 4; rest > 0; rest--) {
            x.run(1);
            Expect.machine(x, 0, 4, rest, 0, 1);
        }
    }

    @Sentence(of = "Speed", says = "at most as many bottles as the low mark, it runs fast from now on; otherwise,")
    static void withEqualMarksTheLowOneGoesFirst() {
        LineBuffers x = filling("2,2");
        x.run(4);
        // In tick 4 there were two bottles at its turn.
        Expect.machine(x, 0, 3, -1, 1, 1);
        x.run(1);
        Expect.machine(x, 0, 3, 5, 0, 1);
        x.setMachine(0, 6, 1, 3, 3);
        x.run(1);
        Expect.machine(x, 0, 3, 4, 1, 1);
        LineBuffers y = filling("0,0");
        y.run(2);
        Expect.machine(y, 0, 1, -1, 1, 1);
        y.run(1);
        Expect.machine(y, 0, 1, 5, 0, 1);
    }

    @Sentence(of = "Speed", says = "at most as many bottles as the low mark, it runs fast from now on; otherwise,")
    static void withBothMarksAtFortyAMachineIsNeverSlow() {
        LineBuffers x = filling("40,40");
        x.addStop(1, 1, 200);
        for (int k = 0; k < 60; k++) {
            x.run(1);
            Expect.equal("machine(0, 2)", 1, x.machine(0, 2));
        }
        Expect.equal("machine(0, 0)", 40, x.machine(0, 0));
    }
}
