/** Promises 1 to 4, 8 and 14: a new object, machines and their settings. */
final class MachineTest {
    private MachineTest() {
    }

    static void promise01NewObjectHasNothing() {
        LineBuffers x = new LineBuffers();
        Expect.equal("NONE", -1, LineBuffers.NONE);
        Expect.equal("size(false)", 0, x.size(false));
        Expect.equal("size(true)", 0, x.size(true));
        Expect.equal("now()", 0, x.now());
        Expect.equal("output()", 0, x.output());
        Expect.equal("inside()", 0, x.inside());
        Expect.equal("clearText()", 0, x.clearText());
        Expect.thrown(Expect.STATE, x, "undo()", x::undo);
    }

    static void promise01ObjectsShareNothing() {
        LineBuffers x = new LineBuffers();
        LineBuffers y = new LineBuffers();
        x.addMachine(1, 1, 1);
        x.append('m');
        Expect.equal("size(false) of the other", 0, y.size(false));
        Expect.equal("clearText() of the other", 0, y.clearText());
    }

    static void promise02AddsAtTheEnd() {
        LineBuffers x = new LineBuffers();
        Expect.equal("first", 0, x.addMachine(20, 1, 40));
        Expect.equal("second", 1, x.addMachine(1, 1, 0));
        Expect.equal("third", 2, x.addMachine(7, 7, 3));
        Expect.settings(x, 0, 20, 1, 0, 40, 40);
        Expect.settings(x, 1, 1, 1, 0, 40, 0);
        Expect.settings(x, 2, 7, 7, 0, 40, 3);
        Expect.machine(x, 1, 0, LineBuffers.NONE, 1, 0);
        Expect.counts(x, 1, 0, 0, 0, 0, 0, 0);
        Expect.equal("undo()", 2, x.undo());
        Expect.equal("size(false)", 2, x.size(false));
    }

    static void promise02RefusesWrongArguments() {
        LineBuffers x = new LineBuffers();
        Expect.thrown(Expect.ARGUMENT, x, "slow 0", () -> x.addMachine(0, 0, 0));
        Expect.thrown(Expect.ARGUMENT, x, "slow 21", () -> x.addMachine(21, 1, 0));
        Expect.thrown(Expect.ARGUMENT, x, "fast 0", () -> x.addMachine(5, 0, 0));
        Expect.thrown(Expect.ARGUMENT, x, "fast 6 of 5", () -> x.addMachine(5, 6, 0));
        Expect.thrown(Expect.ARGUMENT, x, "capacity -1", () -> x.addMachine(5, 5, -1));
        Expect.thrown(Expect.ARGUMENT, x, "capacity 41", () -> x.addMachine(5, 5, 41));
        Expect.thrown(Expect.ARGUMENT, x, "extremes",
                () -> x.addMachine(Integer.MAX_VALUE, Integer.MIN_VALUE, Integer.MIN_VALUE));
    }

    static void promise02RefusesTheNinth() {
        LineBuffers x = new LineBuffers();
        for (int m = 0; m < 8; m++) {
            Expect.equal("addMachine", m, x.addMachine(1, 1, 1));
        }
        Expect.thrown(Expect.STATE, x, "the ninth", () -> x.addMachine(1, 1, 1));
        Expect.thrown(Expect.ARGUMENT, x, "a wrong ninth", () -> x.addMachine(1, 2, 1));
    }

    static void promise02RefusesAfterTick0() {
        LineBuffers x = Expect.lineOf("m1,1,1;");
        x.run(0);
        Expect.equal("at tick 0", 1, x.addMachine(1, 1, 1));
        x.run(1);
        Expect.thrown(Expect.STATE, x, "at tick 1", () -> x.addMachine(1, 1, 1));
        Expect.thrown(Expect.ARGUMENT, x, "wrong at tick 1", () -> x.addMachine(1, 1, 41));
        x.restart();
        Expect.equal("after restart", 2, x.addMachine(1, 1, 1));
    }

    static void promise02NewMachineIsClean() {
        LineBuffers x = Expect.lineOf("m2,1,3;m9,9,4;h0,3,4;h1,5,6;");
        x.run(30);
        x.undo();
        x.undo();
        x.addMachine(3, 3, 3);
        x.addMachine(4, 2, 1);
        for (int m = 0; m < 2; m++) {
            Expect.machine(x, m, 0, LineBuffers.NONE, 1, 0);
            Expect.counts(x, m, 0, 0, 0, 0, 0, 0);
        }
        Expect.settings(x, 0, 3, 3, 0, 40, 3);
        Expect.settings(x, 1, 4, 2, 0, 40, 1);
        x.run(1);
        Expect.equal("meanFill(0)", 0.0, x.meanFill(0));
    }

    static void promise03SetsCyclesAndMarks() {
        LineBuffers x = Expect.lineOf("m9,8,7;m6,5,4;");
        Expect.equal("setMachine", 8, x.setMachine(0, 20, 3, 0, 0));
        Expect.settings(x, 0, 20, 3, 0, 0, 7);
        Expect.settings(x, 1, 6, 5, 0, 40, 4);
        Expect.equal("setMachine", 3, x.setMachine(0, 1, 1, 40, 40));
        Expect.settings(x, 0, 1, 1, 40, 40, 7);
        Expect.equal("setMachine of the last", 5, x.setMachine(1, 2, 2, 3, 9));
        Expect.settings(x, 1, 2, 2, 3, 9, 4);
        x.undo();
        Expect.settings(x, 1, 6, 5, 0, 40, 4);
    }

    static void promise03BottleKeepsItsRest() {
        LineBuffers x = Expect.lineOf("m5,5,0;");
        x.run(1);
        x.setMachine(0, 1, 1, 0, 0);
        Expect.machine(x, 0, 0, 4, 1, 1);
        Expect.equal("three more ticks", 0, x.run(3));
        Expect.equal("the fourth", 1, x.run(1));
        Expect.equal("one by one then", 3, x.run(3));
    }

    static void promise03RefusesWrongArguments() {
        LineBuffers x = Expect.lineOf("m9,8,7;");
        Expect.thrown(Expect.INDEX, x, "machine -1", () -> x.setMachine(-1, 0, 0, 0, 0));
        Expect.thrown(Expect.INDEX, x, "machine 1", () -> x.setMachine(1, 0, 0, 0, 0));
        Expect.thrown(Expect.ARGUMENT, x, "slow 0", () -> x.setMachine(0, 0, 0, 0, 0));
        Expect.thrown(Expect.ARGUMENT, x, "slow 21", () -> x.setMachine(0, 21, 1, 0, 0));
        Expect.thrown(Expect.ARGUMENT, x, "fast 0", () -> x.setMachine(0, 1, 0, 0, 0));
        Expect.thrown(Expect.ARGUMENT, x, "fast 3 of 2", () -> x.setMachine(0, 2, 3, 0, 0));
        Expect.thrown(Expect.ARGUMENT, x, "low -1", () -> x.setMachine(0, 1, 1, -1, 0));
        Expect.thrown(Expect.ARGUMENT, x, "low 5 of 4", () -> x.setMachine(0, 1, 1, 5, 4));
        Expect.thrown(Expect.ARGUMENT, x, "high 41", () -> x.setMachine(0, 1, 1, 0, 41));
        Expect.thrown(Expect.ARGUMENT, x, "high -1", () -> x.setMachine(0, 1, 1, -1, -1));
    }

    static void promise04SetsTheCapacity() {
        LineBuffers x = Expect.lineOf("m9,8,7;m6,5,4;");
        Expect.equal("setCapacity", 7, x.setCapacity(0, 40));
        Expect.equal("setCapacity", 40, x.setCapacity(0, 0));
        Expect.settings(x, 0, 9, 8, 0, 40, 0);
        Expect.equal("setCapacity of the last", 4, x.setCapacity(1, 9));
        Expect.settings(x, 1, 6, 5, 0, 40, 9);
        x.undo();
        Expect.settings(x, 1, 6, 5, 0, 40, 4);
    }

    static void promise04BottlesStay() {
        LineBuffers x = Expect.lineOf("m1,1,5;m20,20,0;");
        x.run(10);
        Expect.machine(x, 0, 5, 0, 1, 3);
        x.setCapacity(0, 2);
        Expect.machine(x, 0, 5, 0, 1, 3);
        x.run(11);
        Expect.equal("output()", 1, x.output());
        Expect.machine(x, 0, 5, 0, 1, 3);
        x.run(1);
        Expect.machine(x, 0, 4, 0, 1, 3);
        Expect.machine(x, 1, 0, 19, 1, 1);
        // Full at the ends of the ticks 6 to 22: five bottles for five places, later five and four for two.
        Expect.counts(x, 0, 7, 0, 15, 0, 6, 17);
    }

    static void promise04RefusesWrongArguments() {
        LineBuffers x = Expect.lineOf("m9,8,7;");
        Expect.thrown(Expect.INDEX, x, "machine -1", () -> x.setCapacity(-1, -1));
        Expect.thrown(Expect.INDEX, x, "machine 1", () -> x.setCapacity(1, 0));
        Expect.thrown(Expect.ARGUMENT, x, "capacity -1", () -> x.setCapacity(0, -1));
        Expect.thrown(Expect.ARGUMENT, x, "capacity 41", () -> x.setCapacity(0, 41));
    }

    static void promise08CountsMachinesAndStops() {
        LineBuffers x = Expect.lineOf("m1,1,1;m1,1,1;m1,1,1;");
        x.addStop(2, 5, 5);
        Expect.equal("size(false)", 3, x.size(false));
        Expect.equal("size(true)", 1, x.size(true));
    }

    static void promise14TellsSettings() {
        LineBuffers x = Expect.lineOf("m9,8,7;m6,5,4;h0,2,3;h1,11,12;");
        Expect.settings(x, 0, 9, 8, 2, 3, 7);
        Expect.settings(x, 1, 6, 5, 11, 12, 4);
        Expect.thrown(Expect.INDEX, x, "machine 2", () -> x.setting(2, 5));
        Expect.thrown(Expect.INDEX, x, "machine -1", () -> x.setting(-1, 0));
        Expect.thrown(Expect.ARGUMENT, x, "what 5", () -> x.setting(1, 5));
        Expect.thrown(Expect.ARGUMENT, x, "what -1", () -> x.setting(1, -1));
    }
}
