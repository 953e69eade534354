/** The edges of the description's part Line text, and of the promises 25 to 27: a test per sentence. */
final class TextEdges {
    private static final String EIGHT = "m1,1,1;m1,1,1;m1,1,1;m1,1,1;m1,1,1;m1,1,1;m1,1,1;m1,1,1;";

    private TextEdges() {
    }

    /** Reads the text over a line that is in use (what-if calls, too), which stays if there is an error. */
    private static LineBuffers reads(String text, int due) {
        LineBuffers x = new LineBuffers();
        x.addMachine(7, 6, 5);
        x.addStop(0, 3, 3);
        x.run(4);
        x.outputWith(0, 3, 9);
        Expect.append(x, text);
        long before = x.digest();
        Expect.equal("parse() of " + text, due, x.parse());
        if (due < 0) {
            Expect.equal("digest() after " + text, before, x.digest());
        }
        return x;
    }

    private static void wrongAt(int position, String... texts) {
        for (String text : texts) {
            reads(text, -10 - position);
        }
    }

    @Sentence(of = "Line text", says = "The text has at most 120 bytes.")
    static void aTextOf120BytesIsRead() {
        String items = "m20,20,40;h00,40,40;h00,40,40;h00,40,40;h00,40,40;h00,40,40;"
                + "h00,40,40;h00,40,40;h00,40,40;h00,40,40;h00,40,40;h00,00,00;";
        Expect.equal("its length", 120, items.length());
        LineBuffers x = reads(items, 1);
        Expect.settings(x, 0, 20, 20, 0, 0, 40);
        Expect.thrown(Expect.STATE, x, "the 121st", () -> x.append('m'));
        wrongAt(119, items.substring(0, 119));
        wrongAt(119, items.substring(0, 119) + "0");
        wrongAt(119, items.substring(0, 119) + ",");
    }

    @Sentence(of = "Line text", says = "It is a sequence of items, each terminated by a semicolon:")
    static void eachItemEndsWithASemicolon() {
        reads("m1,1,1;", 1);
        reads("m1,1,1;m1,1,1;", 2);
        wrongAt(6, "m1,1,1", "m1,1,1m1,1,1;", "m1,1,1,", "m1,1,1.", "m1,1,1:", "m1,1,1\n");
        wrongAt(7, "m1,1,1;;", "m1,1,1;,");
        wrongAt(13, "m1,1,1;h0,0,0", "m1,1,1;h0,0,0m", "m1,1,1;h0,0,0,");
        wrongAt(0, ";", ";m1,1,1;");
    }

    @Sentence(of = "Line text", says = "\"m\", slow cycle, fast cycle and capacity")
    static void aMachineHasThreeNumbers() {
        LineBuffers x = reads("m9,8,7;", 1);
        Expect.settings(x, 0, 9, 8, 0, 40, 7);
        wrongAt(1, "m;", "m,");
        wrongAt(2, "m9;");
        wrongAt(4, "m9,8;");
        wrongAt(6, "m9,8,7,6;");
        wrongAt(0, "M9,8,7;", "n9,8,7;", "l9,8,7;", "9,8,7;");
    }

    @Sentence(of = "Line text", says = "\"m\", slow cycle, fast cycle and capacity")
    static void theSlowCycleIs1To20() {
        Expect.settings(reads("m1,1,0;", 1), 0, 1, 1);
        Expect.settings(reads("m20,1,0;", 1), 0, 20, 1);
        wrongAt(1, "m0,1,0;", "m00,1,0;", "m21,1,0;", "m99,1,0;");
    }

    @Sentence(of = "Line text", says = "(a fast cycle above the slow one, a low mark above 40, a high mark below the low one, too)")
    static void theFastCycleIs1ToSlow() {
        Expect.settings(reads("m20,20,0;", 1), 0, 20, 20);
        Expect.settings(reads("m7,7,0;", 1), 0, 7, 7);
        wrongAt(3, "m7,0,0;", "m7,8,0;", "m1,2,0;", "m7,20,0;", "m7,00,0;");
        wrongAt(4, "m20,21,0;", "m20,0,0;");
        // The slow cycle that counts is that of the same item.
        wrongAt(12, "m20,20,0;m1,2,0;");
    }

    @Sentence(of = "Line text", says = "(in its range also for the last machine, where it does not matter)")
    static void theCapacityIs0To40AlsoOfTheLast() {
        reads("m1,1,0;", 1);
        reads("m1,1,40;", 1);
        wrongAt(5, "m1,1,41;", "m1,1,99;", "m1,1,41;m1,1,1;");
        wrongAt(12, "m1,1,1;m1,1,41;");
        Expect.equal("setting(1, 4)", 40, reads("m1,1,0;m1,1,40;", 2).setting(1, 4));
    }

    @Sentence(of = "Line text", says = "a machine, with low mark 0 and high mark 40;")
    static void theMarksOfAMachineThatIsRead() {
        LineBuffers x = Expect.lineOf("m1,1,1;m1,1,1;h0,3,4;h1,5,6;");
        Expect.append(x, "m2,2,2;m3,3,3;");
        Expect.equal("parse()", 2, x.parse());
        Expect.settings(x, 0, 2, 2, 0, 40, 2);
        Expect.settings(x, 1, 3, 3, 0, 40, 3);
    }

    @Sentence(of = "Line text", says = "\"h\", a machine told before, low mark and high mark.")
    static void marksAreOfAMachineToldBefore() {
        LineBuffers x = reads("m1,1,1;h0,1,2;m1,1,1;h1,3,4;h0,5,6;", 2);
        Expect.settings(x, 0, 1, 1, 5, 6);
        Expect.settings(x, 1, 1, 1, 3, 4);
        wrongAt(8, "m1,1,1;h1,1,2;", "m1,1,1;h1,1,2;m1,1,1;", "m1,1,1;h01,1,2;", "m1,1,1;h99,1,2;");
        wrongAt(15, "m1,1,1;m1,1,1;h2,1,2;");
        // The machines that the text tells count, not those that are there.
        wrongAt(1, "h0,1,2;", "h00,1,2;");
        Expect.settings(reads(EIGHT + "h7,1,2;", 8), 7, 1, 1, 1, 2);
        wrongAt(57, EIGHT + "h8,1,2;");
    }

    @Sentence(of = "Line text", says = "\"h\", a machine told before, low mark and high mark.")
    static void marksHaveThreeNumbers() {
        wrongAt(8, "m1,1,1;h;", "m1,1,1;h,");
        wrongAt(9, "m1,1,1;h0;");
        wrongAt(11, "m1,1,1;h0,1;");
        wrongAt(13, "m1,1,1;h0,1,2,");
        wrongAt(7, "m1,1,1;H0,1,2;", "m1,1,1;g0,1,2;", "m1,1,1;i0,1,2;");
    }

    @Sentence(of = "Line text", says = "(a fast cycle above the slow one, a low mark above 40, a high mark below the low one, too)")
    static void theLowMarkIs0To40() {
        Expect.settings(reads("m1,1,1;h0,0,0;", 1), 0, 1, 1, 0, 0);
        Expect.settings(reads("m1,1,1;h0,40,40;", 1), 0, 1, 1, 40, 40);
        wrongAt(10, "m1,1,1;h0,41,40;", "m1,1,1;h0,41,41;", "m1,1,1;h0,99,0;");
    }

    @Sentence(of = "Line text", says = "(a fast cycle above the slow one, a low mark above 40, a high mark below the low one, too)")
    static void theHighMarkIsLowTo40() {
        Expect.settings(reads("m1,1,1;h0,7,7;", 1), 0, 1, 1, 7, 7);
        Expect.settings(reads("m1,1,1;h0,7,40;", 1), 0, 1, 1, 7, 40);
        wrongAt(12, "m1,1,1;h0,7,6;", "m1,1,1;h0,7,06;", "m1,1,1;h0,7,0;", "m1,1,1;h0,7,41;");
        wrongAt(13, "m1,1,1;h0,40,39;", "m1,1,1;h0,40,41;");
    }

    @Sentence(of = "Line text", says = "Numbers are separated by commas and have one or two digits.")
    static void numbersHaveOneOrTwoDigits() {
        LineBuffers x = reads("m09,08,07;h00,05,06;", 1);
        Expect.settings(x, 0, 9, 8, 5, 6, 7);
        wrongAt(1, "m,1,1;");
        wrongAt(3, "m1,,1;", "m100,1,1;");
        wrongAt(5, "m1,1,;", "m1,100,1;");
        wrongAt(2, "m1;1,1;", "m1.1,1;", "m1-1,1;", "m1/1,1;", "m1:1,1;");
        wrongAt(1, "m+1,1,1;", "m-1,1,1;", "m/1,1,1;", "m:1,1,1;");
    }

    @Sentence(of = "Line text", says = "There are no spaces;")
    static void spacesAreWrongWhereTheyStand() {
        String text = "m1,1,1;h0,0,0;";
        for (int at = 0; at <= text.length(); at++) {
            wrongAt(at, text.substring(0, at) + " " + text.substring(at));
        }
    }

    @Sentence(of = "Line text", says = "there may be no items.")
    static void aTextWithoutItemsIsALineWithoutMachines() {
        LineBuffers x = reads("", 0);
        Expect.equal("size(false)", 0, x.size(false));
        Expect.equal("size(true)", 0, x.size(true));
        Expect.equal("now()", 0, x.now());
        Expect.thrown(Expect.STATE, x, "run(1)", () -> x.run(1));
    }

    @Sentence(of = "Line text", says = "The syntax error position is the index of the first byte that cannot stand where it stands")
    static void theFirstWrongByteCounts() {
        wrongAt(0, "xx", "x", "1", "\0", "\177", " ");
        wrongAt(7, "m1,1,1;x;x", "m1,1,1;7");
        wrongAt(2, "m1x1,x,x;");
        // An earlier number out of range goes before a later wrong byte, and the other way round.
        wrongAt(1, "m0,x");
        wrongAt(2, "m1x0,0,0;");
        wrongAt(3, "m1,2,x", "m1,2,41;");
    }

    @Sentence(of = "Line text", says = "(a third digit, the \"m\" of a ninth machine, too),")
    static void aThirdDigitIsWrong() {
        wrongAt(3, "m100,1,1;", "m001,1,1;", "m999", "m210", "m000");
        wrongAt(5, "m1,001,1;", "m1,999");
        wrongAt(7, "m1,1,000;", "m1,1,410");
        wrongAt(10, "m1,1,1;h000,0,0;", "m1,1,1;h990");
        wrongAt(12, "m1,1,1;h0,400,0;", "m1,1,1;h0,990");
        wrongAt(14, "m1,1,1;h0,0,000;", "m1,1,1;h0,5,030");
    }

    @Sentence(of = "Line text", says = "(a third digit, the \"m\" of a ninth machine, too),")
    static void theMOfANinthMachineIsWrong() {
        reads(EIGHT, 8);
        wrongAt(56, EIGHT + "m", EIGHT + "m1,1,1;", EIGHT + "m0,1,1;");
        wrongAt(63, EIGHT + "h7,1,1;m1,1,1;");
    }

    @Sentence(of = "Line text", says = "or the length of the text if the text ends too early.")
    static void aTextThatEndsTooEarly() {
        String text = "m1,1,10;h0,10,11;m1,1,1;";
        for (int length = 0; length <= text.length(); length++) {
            String start = text.substring(0, length);
            if (length == 0 || length == 8 || length == 17 || length == 24) {
                reads(start, length == 24 ? 2 : length == 0 ? 0 : 1);
            } else {
                // No start of a number is out of its range here but that of the high mark, 1 below 10.
                wrongAt(length == 15 ? 14 : length, start);
            }
        }
    }

    @Sentence(of = "Line text", says = "it is the index of its first digit, found when a byte that is no digit, or the end of the text, follows it.")
    static void aNumberIsOutOfRangeOnceItEnds() {
        wrongAt(1, "m0", "m00", "m21", "m21,", "m21;", "m21x", "m21 ", "m0m", "h0", "h0;");
        wrongAt(3, "m5,6", "m5,06", "m5,6;", "m5,6x", "m5,0");
        wrongAt(5, "m5,5,41", "m5,5,41,", "m5,5,41m");
        wrongAt(10, "m5,5,5;h0,41", "m5,5,5;h0,41;");
        wrongAt(12, "m5,5,5;h0,9,8", "m5,5,5;h0,9,8,", "m5,5,5;h0,9,41");
        // A digit that follows may bring it into its range still.
        reads("m01,01,01;", 1);
        reads("m9,9,9;h0,9,10;", 1);
        wrongAt(3, "m210");
    }

    @Sentence(of = "Promise 25", says = "`value`: the byte, 0 to 127")
    static void appendTakes0To127() {
        LineBuffers x = new LineBuffers();
        Expect.range(x, "value", 0, 127, x::append);
        Expect.equal("clearText()", 2, x.clearText());
    }

    @Sentence(of = "Promise 25", says = "Returns the new length of the text.")
    static void appendAnswersTheLengthFrom1To120() {
        LineBuffers x = new LineBuffers();
        for (int length = 1; length <= 120; length++) {
            Expect.equal("append", length, x.append(length));
        }
    }

    @Sentence(of = "Promise 25", says = "Throws `IllegalStateException` if the text has 120 bytes")
    static void appendRefusesThe121st() {
        LineBuffers x = new LineBuffers();
        Expect.append(x, "m".repeat(119));
        Expect.equal("the 120th", 120, x.append('m'));
        Expect.thrown(Expect.STATE, x, "the 121st", () -> x.append('m'));
        x.clearText();
        Expect.equal("the first again", 1, x.append('m'));
    }

    @Sentence(of = "Promise 26", says = "Returns the length that it had.")
    static void clearTextAnswersFrom0To120() {
        LineBuffers x = new LineBuffers();
        Expect.equal("empty", 0, x.clearText());
        x.append(0);
        Expect.equal("one", 1, x.clearText());
        Expect.append(x, "x".repeat(120));
        Expect.equal("full", 120, x.clearText());
        Expect.equal("empty again", 0, x.clearText());
    }

    @Sentence(of = "Promise 26", says = "Empties the line text.")
    static void clearTextLeavesNothingOfTheOldText() {
        LineBuffers x = new LineBuffers();
        Expect.append(x, EIGHT);
        x.clearText();
        Expect.equal("no items", 0, x.parse());
        Expect.append(x, "m1,1,1");
        Expect.equal("ends too early", -16, x.parse());
        x.append(';');
        Expect.equal("one item", 1, x.parse());
    }

    @Sentence(of = "Promise 27", says = "at tick 0, without stops.")
    static void parseBeginsAtTick0WithoutStops() {
        LineBuffers x = reads("m1,1,1;m1,1,1;", 2);
        Expect.equal("now()", 0, x.now());
        Expect.equal("output()", 0, x.output());
        Expect.equal("inside()", 0, x.inside());
        Expect.equal("size(true)", 0, x.size(true));
        for (int m = 0; m < 2; m++) {
            Expect.machine(x, m, 0, LineBuffers.NONE, 1, 0);
            Expect.counts(x, m, 0, 0, 0, 0, 0, 0);
        }
        x.run(1);
        Expect.equal("meanFill(0)", 0.0, x.meanFill(0));
        Expect.equal("no stop", 0, x.count(0, 3));
    }

    @Sentence(of = "Promise 27", says = "The text stays as it is.")
    static void parseKeepsTheText() {
        LineBuffers x = reads("m1,1,1;", 1);
        Expect.equal("parse() again", 1, x.parse());
        Expect.append(x, "m1");
        Expect.equal("with an error", -19, x.parse());
        Expect.append(x, ",1,1;");
        Expect.equal("parse() of more", 2, x.parse());
        Expect.equal("clearText()", 14, x.clearText());
    }

    @Sentence(of = "Promise 27", says = "Undoable, if there is no syntax error.")
    static void parseSavesAStateOnlyWithoutAnError() {
        LineBuffers x = new LineBuffers();
        Expect.equal("no items", 0, x.parse());
        Expect.equal("undo()", 0, x.undo());
        x.append('x');
        x.parse();
        Expect.thrown(Expect.STATE, x, "undo()", x::undo);
        LineBuffers y = reads("m1,1,1;", 1);
        y.undo();
        Expect.equal("now()", 4, y.now());
        Expect.settings(y, 0, 7, 6, 0, 40, 5);
        Expect.stop(y, 0, 0, 3, 3);
    }

    @Sentence(of = "Promise 27", says = "Returns the number of machines;")
    static void parseAnswers0To8Machines() {
        for (int machines = 0; machines <= 8; machines++) {
            reads(EIGHT.substring(0, 7 * machines), machines);
        }
    }

    @Sentence(of = "Promise 27", says = "-10 minus the syntax error position if there is a syntax error (then nothing changes).")
    static void parseAnswersPositionsFrom0To120() {
        reads("x", -10);
        reads("m", -11);
        String full = EIGHT + EIGHT.replace('m', 'h').replace("h1", "h0");
        reads(full + "h0,0,00;", 8);
        reads(full + "h0,0,0x;", -128);
        reads(full + "h00,00,0", -130);
        reads("m1,1,1;h0,0,0;" + "h0,0,0;".repeat(14) + "h00,00,0", -130);
    }
}
