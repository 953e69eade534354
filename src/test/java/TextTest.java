/** Promises 25 to 27: the line text and its reading. */
final class TextTest {
    private TextTest() {
    }

    private static void parses(String text, int want) {
        LineBuffers x = new LineBuffers();
        x.addMachine(7, 7, 7);
        x.addStop(0, 3, 3);
        Expect.append(x, text);
        long before = x.digest();
        Expect.equal("parse() of " + text, want, x.parse());
        if (want < 0) {
            Expect.equal("digest() after " + text, before, x.digest());
        } else {
            Expect.equal("size(true) after " + text, 0, x.size(true));
            Expect.equal("size(false) after " + text, want, x.size(false));
        }
        Expect.equal("the text stays: " + text, text.length(), x.clearText());
    }

    private static void wrongAt(String text, int position) {
        parses(text, -10 - position);
    }

    static void promise25AppendsBytes() {
        LineBuffers x = new LineBuffers();
        Expect.equal("append(0)", 1, x.append(0));
        Expect.equal("append(127)", 2, x.append(127));
        Expect.thrown(Expect.ARGUMENT, x, "append(-1)", () -> x.append(-1));
        Expect.thrown(Expect.ARGUMENT, x, "append(128)", () -> x.append(128));
        for (int length = 3; length <= 120; length++) {
            Expect.equal("append", length, x.append('m'));
        }
        Expect.thrown(Expect.STATE, x, "the 121st", () -> x.append('m'));
        Expect.thrown(Expect.ARGUMENT, x, "a wrong 121st", () -> x.append(128));
        Expect.thrown(Expect.STATE, x, "appending is not undoable", x::undo);
    }

    static void promise26EmptiesTheText() {
        LineBuffers x = new LineBuffers();
        Expect.append(x, "m1,1,1;");
        Expect.equal("clearText()", 7, x.clearText());
        Expect.equal("clearText() again", 0, x.clearText());
        Expect.equal("append", 1, x.append('x'));
        Expect.equal("parse()", -10, x.parse());
        Expect.thrown(Expect.STATE, x, "clearing is not undoable", x::undo);
    }

    static void promise27MakesTheLine() {
        LineBuffers x = new LineBuffers();
        x.addMachine(9, 9, 9);
        x.addStop(0, 5, 5);
        x.run(20);
        long before = x.digest();
        Expect.append(x, "m20,1,40;m05,04,00;h0,7,9;m1,1,0;h2,0,0;h0,00,40;h1,40,40;");
        Expect.equal("parse()", 3, x.parse());
        Expect.settings(x, 0, 20, 1, 0, 40, 40);
        Expect.settings(x, 1, 5, 4, 40, 40, 0);
        Expect.settings(x, 2, 1, 1, 0, 0, 0);
        Expect.equal("now()", 0, x.now());
        Expect.equal("output()", 0, x.output());
        Expect.equal("size(true)", 0, x.size(true));
        for (int m = 0; m < 3; m++) {
            Expect.machine(x, m, 0, LineBuffers.NONE, 1, 0);
            Expect.counts(x, m, 0, 0, 0, 0, 0, 0);
        }
        Expect.equal("undo()", 3, x.undo());
        Expect.equal("the text is not restored", 58, x.clearText());
        Expect.equal("digest()", before, x.digest());
    }

    static void promise27MayHaveNoItems() {
        parses("", 0);
        LineBuffers x = Expect.lineOf("m1,1,1;");
        x.run(3);
        Expect.equal("parse()", 0, x.parse());
        Expect.equal("now()", 0, x.now());
        Expect.equal("size(false)", 0, x.size(false));
        Expect.equal("undo()", 2, x.undo());
        Expect.equal("now()", 3, x.now());
    }

    static void promise27ReadsAgain() {
        LineBuffers x = Expect.lineOf("m1,1,1;m2,2,2;");
        Expect.append(x, "m3,3,3;");
        Expect.equal("parse()", 1, x.parse());
        x.run(9);
        Expect.equal("parse()", 1, x.parse());
        Expect.equal("now()", 0, x.now());
        Expect.append(x, "h0,1,2;x");
        x.run(2);
        Expect.equal("parse() with an error", -24, x.parse());
        Expect.equal("now()", 2, x.now());
        Expect.settings(x, 0, 3, 3, 0, 40, 3);
    }

    static void promise27FindsBytesThatCannotStand() {
        wrongAt("x", 0);
        wrongAt("M1,1,1;", 0);
        wrongAt(" m1,1,1;", 0);
        wrongAt(";", 0);
        wrongAt("1", 0);
        wrongAt("m,", 1);
        wrongAt("m;", 1);
        wrongAt("mm", 1);
        wrongAt("m 1,1,1;", 1);
        wrongAt("m1;", 2);
        wrongAt("m1,1;", 4);
        wrongAt("m1,1,1,", 6);
        wrongAt("m1,1,1m", 6);
        wrongAt("m1,1,1;;", 7);
        wrongAt("m1,1,1;1", 7);
        wrongAt("m1,1,1;hh", 8);
        wrongAt("m1,1,1;h0;", 9);
        wrongAt("m1,1,1;h0,0;", 11);
        wrongAt("m1,1,1;h0,0,0,", 13);
        wrongAt("m1,-1,1;", 3);
        wrongAt("m1/1", 2);
        wrongAt("m1:1", 2);
        wrongAt("m/", 1);
        wrongAt("m:", 1);
    }

    static void promise27FindsThirdDigits() {
        wrongAt("m100", 3);
        wrongAt("m999", 3);
        wrongAt("m001", 3);
        wrongAt("m10,100", 6);
        wrongAt("m1,1,000;", 7);
        wrongAt("m1,1,1;h000", 10);
        wrongAt("m1,1,1;h0,0,400", 14);
    }

    static void promise27FindsTextsThatEndTooEarly() {
        wrongAt("m", 1);
        wrongAt("m1", 2);
        wrongAt("m10", 3);
        wrongAt("m1,", 3);
        wrongAt("m1,1", 4);
        wrongAt("m1,1,", 5);
        wrongAt("m1,1,1", 6);
        wrongAt("m1,1,1;m", 8);
        wrongAt("h", 1);
        wrongAt("m1,1,1;h0,0,0", 13);
    }

    static void promise27FindsNumbersOutOfRange() {
        wrongAt("m0,1,1;", 1);
        wrongAt("m00,1,1;", 1);
        wrongAt("m21,1,1;", 1);
        wrongAt("m99", 1);
        wrongAt("m0x", 1);
        wrongAt("m5,0,1;", 3);
        wrongAt("m5,6,1;", 3);
        wrongAt("m05,06", 4);
        wrongAt("m5,6;", 3);
        wrongAt("m20,20,41;", 7);
        wrongAt("m1,1,41", 5);
        wrongAt("m1,1,99,", 5);
        parses("m20,20,40;", 1);
    }

    static void promise27FindsMarksOutOfRange() {
        wrongAt("h0", 1);
        wrongAt("h0,0,0;", 1);
        wrongAt("m1,1,1;h1,0,0;", 8);
        wrongAt("m1,1,1;h01,0,0;m1,1,1;", 8);
        wrongAt("m1,1,1;m1,1,1;h2,0,0;", 15);
        wrongAt("m1,1,1;h0,41,41;", 10);
        wrongAt("m1,1,1;h0,0,41;", 12);
        wrongAt("m1,1,1;h0,5,4;", 12);
        wrongAt("m1,1,1;h0,5,04", 12);
        wrongAt("m1,1,1;h0,40,39;", 13);
        parses("m1,1,1;m1,1,1;h01,40,40;", 2);
        parses("m1,1,1;h0,5,6;h0,3,4;", 1);
    }

    static void promise27FindsTheNinthMachine() {
        String eight = "m1,1,1;m1,1,1;m1,1,1;m1,1,1;m1,1,1;m1,1,1;m1,1,1;m1,1,1;";
        parses(eight, 8);
        wrongAt(eight + "m1,1,1;", 56);
        wrongAt(eight + "m", 56);
        parses(eight + "h7,1,1;", 8);
        wrongAt(eight + "h8,1,1;", 57);
        wrongAt(eight + "h7,1,1;m", 63);
    }

    static void promise27ReadsAFullText() {
        String full = "m20,20,40;m20,20,40;m20,20,40;m20,20,40;m20,20,40;m20,20,40;"
                + "m20,20,40;m20,20,40;h07,40,40;h07,40,40;h07,40,40;h07,40,40";
        wrongAt(full, 119);
        wrongAt(full + "0", 119);
        parses(full + ";", 8);
    }
}
