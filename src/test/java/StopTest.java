/** Promises 5 to 9: stops that are planned or drawn. */
final class StopTest {
    private StopTest() {
    }

    private static LineBuffers twoMachines() {
        return Expect.lineOf("m1,1,1;m1,1,1;");
    }

    static void promise05PlansInOrder() {
        LineBuffers x = twoMachines();
        Expect.equal("addStop", 1, x.addStop(1, 10000, 200));
        Expect.equal("addStop", 2, x.addStop(0, 1, 1));
        Expect.equal("addStop", 3, x.addStop(1, 10000, 200));
        Expect.stop(x, 0, 1, 10000, 200);
        Expect.stop(x, 1, 0, 1, 1);
        Expect.stop(x, 2, 1, 10000, 200);
        x.undo();
        Expect.equal("size(true) after undo()", 2, x.size(true));
    }

    static void promise05FirstIsAboveThePresentTick() {
        LineBuffers x = twoMachines();
        x.run(7);
        Expect.thrown(Expect.ARGUMENT, x, "first 7 at tick 7", () -> x.addStop(0, 7, 1));
        Expect.equal("first 8 at tick 7", 1, x.addStop(0, 8, 1));
    }

    static void promise05RefusesWrongArguments() {
        LineBuffers x = twoMachines();
        Expect.thrown(Expect.INDEX, x, "machine 2", () -> x.addStop(2, 0, 0));
        Expect.thrown(Expect.INDEX, x, "machine -1", () -> x.addStop(-1, 1, 1));
        Expect.thrown(Expect.ARGUMENT, x, "first 0", () -> x.addStop(0, 0, 1));
        Expect.thrown(Expect.ARGUMENT, x, "first 10001", () -> x.addStop(0, 10001, 1));
        Expect.thrown(Expect.ARGUMENT, x, "duration 0", () -> x.addStop(0, 1, 0));
        Expect.thrown(Expect.ARGUMENT, x, "duration 201", () -> x.addStop(0, 1, 201));
    }

    static void promise05RefusesTheFortyFirst() {
        LineBuffers x = twoMachines();
        for (int k = 1; k <= 40; k++) {
            Expect.equal("addStop", k, x.addStop(k % 2, k, k));
        }
        Expect.thrown(Expect.STATE, x, "the 41st", () -> x.addStop(0, 1, 1));
        Expect.thrown(Expect.ARGUMENT, x, "a wrong 41st", () -> x.addStop(0, 1, 0));
        Expect.thrown(Expect.INDEX, x, "a 41st of no machine", () -> x.addStop(2, 1, 0));
        Expect.stop(x, 39, 0, 40, 40);
    }

    static void promise06DrawsStops() {
        LineBuffers x = twoMachines();
        Expect.equal("addRandomStops", 3, x.addRandomStops(1, 1, 10, 5, 3));
        Expect.stop(x, 0, 1, 19, 9);
        Expect.stop(x, 1, 1, 41, 6);
        Expect.stop(x, 2, 1, 58, 8);
        x.undo();
        Expect.equal("size(true) after undo()", 0, x.size(true));
    }

    static void promise06BeginsAtThePresentTick() {
        LineBuffers x = twoMachines();
        x.addStop(1, 100, 1);
        x.run(5);
        Expect.equal("addRandomStops", 5, x.addRandomStops(0, 0, 1, 1, 4));
        Expect.stop(x, 1, 0, 6, 1);
        Expect.stop(x, 2, 0, 7, 2);
        Expect.stop(x, 3, 0, 9, 2);
        Expect.stop(x, 4, 0, 12, 2);
    }

    static void promise06EndsAbove10000() {
        LineBuffers x = twoMachines();
        Expect.equal("addRandomStops", 19, x.addRandomStops(0, 999999, 500, 100, 40));
        Expect.stop(x, 0, 0, 729, 159);
        Expect.stop(x, 18, 0, 9679, 179);
    }

    static void promise06ReachesTick10000AtMost() {
        LineBuffers x = twoMachines();
        for (int k = 0; k < 5; k++) {
            x.run(k < 4 ? 2000 : 1990);
        }
        Expect.equal("none before 10000", 0, x.addRandomStops(0, 7, 500, 100, 5));
        Expect.equal("saved though nothing was planned", 3, x.undo());
        Expect.equal("two", 2, x.addRandomStops(0, 7, 3, 2, 8));
        Expect.stop(x, 0, 0, 9995, 3);
        Expect.stop(x, 1, 0, 10000, 3);
        x.run(10);
        Expect.equal("at tick 10000", 2, x.addRandomStops(0, 7, 1, 1, 1));
    }

    static void promise06RefusesWrongArguments() {
        LineBuffers x = twoMachines();
        Expect.thrown(Expect.INDEX, x, "machine 2", () -> x.addRandomStops(2, -1, 0, 0, 0));
        Expect.thrown(Expect.INDEX, x, "machine -1", () -> x.addRandomStops(-1, 0, 1, 1, 1));
        Expect.thrown(Expect.ARGUMENT, x, "seed -1", () -> x.addRandomStops(0, -1, 1, 1, 1));
        Expect.thrown(Expect.ARGUMENT, x, "seed 1000000", () -> x.addRandomStops(0, 1000000, 1, 1, 1));
        Expect.thrown(Expect.ARGUMENT, x, "up 0", () -> x.addRandomStops(0, 0, 0, 1, 1));
        Expect.thrown(Expect.ARGUMENT, x, "up 501", () -> x.addRandomStops(0, 0, 501, 1, 1));
        Expect.thrown(Expect.ARGUMENT, x, "down 0", () -> x.addRandomStops(0, 0, 1, 0, 1));
        Expect.thrown(Expect.ARGUMENT, x, "down 101", () -> x.addRandomStops(0, 0, 1, 101, 1));
        Expect.thrown(Expect.ARGUMENT, x, "number 0", () -> x.addRandomStops(0, 0, 1, 1, 0));
        Expect.thrown(Expect.ARGUMENT, x, "number 41", () -> x.addRandomStops(0, 0, 1, 1, 41));
    }

    static void promise06CountsAllOfNumber() {
        LineBuffers x = twoMachines();
        x.addStop(1, 1, 1);
        Expect.thrown(Expect.STATE, x, "40 beside one", () -> x.addRandomStops(0, 999999, 500, 100, 40));
        Expect.thrown(Expect.ARGUMENT, x, "41 beside one", () -> x.addRandomStops(0, 0, 1, 1, 41));
        Expect.equal("39 beside one", 20, x.addRandomStops(0, 999999, 500, 100, 39));
        Expect.equal("20 beside 20", 40, x.addRandomStops(0, 0, 1, 1, 20));
        Expect.thrown(Expect.STATE, x, "one beside 40", () -> x.addRandomStops(0, 0, 1, 1, 1));
    }

    static void promise07RemovesWhatBeginsLater() {
        LineBuffers x = twoMachines();
        x.addStop(0, 5, 1);
        x.addStop(0, 1, 9);
        x.addStop(1, 4, 3);
        x.addStop(1, 3, 2);
        x.run(3);
        Expect.equal("clearStops()", 2, x.clearStops());
        Expect.equal("size(true)", 2, x.size(true));
        Expect.stop(x, 0, 0, 1, 9);
        Expect.stop(x, 1, 1, 3, 2);
        Expect.thrown(Expect.INDEX, x, "stop(2, 0)", () -> x.stop(2, 0));
        Expect.equal("clearStops() again", 0, x.clearStops());
        x.undo();
        x.undo();
        Expect.equal("size(true) after undo()", 4, x.size(true));
        Expect.stop(x, 0, 0, 5, 1);
        Expect.stop(x, 2, 1, 4, 3);
    }

    static void promise07RemovedStopsDoNotStop() {
        LineBuffers x = twoMachines();
        x.addStop(0, 2, 50);
        x.clearStops();
        x.run(5);
        Expect.equal("down ticks", 0, x.count(0, 3));
    }

    static void promise09TellsOfStops() {
        LineBuffers x = twoMachines();
        Expect.thrown(Expect.INDEX, x, "stop(0, 3) of none", () -> x.stop(0, 3));
        x.addStop(1, 20, 30);
        Expect.stop(x, 0, 1, 20, 30);
        Expect.thrown(Expect.INDEX, x, "stop(-1, 0)", () -> x.stop(-1, 0));
        Expect.thrown(Expect.INDEX, x, "stop(1, -1)", () -> x.stop(1, -1));
        Expect.thrown(Expect.ARGUMENT, x, "stop(0, 3)", () -> x.stop(0, 3));
        Expect.thrown(Expect.ARGUMENT, x, "stop(0, -1)", () -> x.stop(0, -1));
    }
}
