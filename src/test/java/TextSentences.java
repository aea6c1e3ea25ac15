/** The sentences that promises 21 to 23 rest on: the weather text. */
final class TextSentences {
    private static final String ITEMS = "It is a sequence of items, each terminated by a semicolon: a temperature"
            + " (\"-\" and digits, or digits; one to three digits, also \"-0\"), a comma, a snowfall of one to three"
            + " digits, and optionally \"x\" and a number of hours of one or two digits: so many hours with this"
            + " weather (1 without it).";
    private static final String NO_SPACES = "There are no spaces; there may be no items.";
    private static final String POSITION = "The syntax error position is the index of the first byte that cannot stand"
            + " where it stands (a digit too many, too), or the length of the text if the text ends too early.";
    private static final String RANGES = "For a temperature that is not -300 to 300, a snowfall above 100, and 0 hours,"
            + " it is the index of the first digit of the number, found when a byte that is no digit, whichever it is,"
            + " or the end of the text, follows it.";

    static void runAll() {
        Check.each(
                TextSentences::appendAppends, TextSentences::appendRange, TextSentences::appendReturnsTheLength,
                TextSentences::appendRefusesRanges, TextSentences::appendRefusesTheNextByte,
                TextSentences::textIsFull, TextSentences::clearTextEmpties,
                TextSentences::clearTextReturnsTheLength, TextSentences::runTextRuns, TextSentences::textStays,
                TextSentences::runTextIsUndoable, TextSentences::runTextReturnsTheCredits,
                TextSentences::runTextChangesNothingOnErrors, TextSentences::runTextRefusesTooManyHours,
                TextSentences::temperaturesOfItems, TextSentences::snowfallsOfItems, TextSentences::hoursOfItems,
                TextSentences::manyItems, TextSentences::spacesAndNoItems, TextSentences::bytesThatCannotStand,
                TextSentences::digitsTooMany, TextSentences::textsThatEndTooEarly,
                TextSentences::everyByteAtEveryPlace, TextSentences::positionsInLaterItems,
                TextSentences::temperaturesOutOfRange, TextSentences::snowfallsOutOfRange, TextSentences::noHours,
                TextSentences::firstErrorCounts);
    }

    private static void appendAppends() {
        Check.sentence(21, "Appends a byte to the weather text.");
        SnowRounds x = Towns.withText("5,7");
        x.append(';');
        Check.equal("the text is read to its end", x.runText(), 0);
        Check.equal("one hour", x.value(0), 1);
        x.append('-');
        Check.equal("the byte stands behind the others", x.runText(), -10 - 5);
        SnowRounds y = new SnowRounds();
        String before = Snapshot.state(y);
        y.append('1');
        Check.equal("nothing else changes", Snapshot.state(y), before);
        Check.equal("no state is saved", y.digest(), Snapshot.digest(y, 1, 0));
    }

    private static void appendRange() {
        Check.sentence(21, "`value`: the byte, 0 to 127");
        SnowRounds x = new SnowRounds();
        for (int i = 0; i < 128; i++) {
            Check.equal("append of " + i, x.append(i), 1);
            Check.equal("the text has it", x.clearText(), 1);
        }
        int[] wrong = {-128, -1, 128, 255, 256, 256 + '0'};
        Check.refusedWith("append of", wrong, x, Check.ARGUMENT, v -> x.append(v));
    }

    private static void appendReturnsTheLength() {
        Check.sentence(21, "Returns the new length of the text.");
        SnowRounds x = new SnowRounds();
        for (int i = 1; i <= 150; i++) {
            Check.equal("length", x.append('0'), i);
        }
        x.clearText();
        Check.equal("after clearText", x.append('0'), 1);
        x.addStreet(100, 0);
        x.undo();
        Check.equal("after undo", x.append('0'), 2);
    }

    private static void appendRefusesRanges() {
        Check.sentence(21, "Throws `IllegalArgumentException` if value is out of range");
        SnowRounds x = Towns.withText("1,1");
        Check.refusedWith("append of", new int[] {-1, 128}, x, Check.ARGUMENT, v -> x.append(v));
        x.append(';');
        Check.equal("the refused bytes are not in the text", x.runText(), 0);
    }

    private static void appendRefusesTheNextByte() {
        Check.sentence(21, "Throws `IllegalStateException` if the text has 150 bytes");
        SnowRounds x = new SnowRounds();
        for (int i = 0; i < 149; i++) {
            x.append('1');
        }
        Check.equal("with 149 bytes", x.append('1'), 150);
        Check.refused("with 150 bytes", x, Check.STATE, () -> x.append('1'));
        Check.refused("with 150 bytes, byte 0", x, Check.STATE, () -> x.append(0));
        Check.equal("the text", x.clearText(), 150);
        Check.equal("when it is empty", x.append('1'), 1);
    }

    private static String repeated(String item, int times) {
        StringBuilder out = new StringBuilder();
        for (int i = 0; i < times; i++) {
            out.append(item);
        }
        return out.toString();
    }

    private static void textIsFull() {
        Check.sentence(21, "The text has at most 150 bytes.");
        SnowRounds x = Towns.withText(repeated("0,1;", 36) + "10,30;");
        x.addStreet(10, 2);
        Check.refused("byte 150", x, Check.STATE, () -> x.append(';'));
        Check.sentence(23, "The text has at most 150 bytes.");
        Check.equal("150 bytes are read", x.runText(), 0);
        Check.equal("37 hours", x.value(0), 37);
        Check.equal("the last item counts", Towns.ground(x, 0), "64 4 0");
        Check.equal("an error at the last byte", positionIn(repeated("0,1;", 37) + "0;"), 149);
        Check.equal("no end at the last byte", positionIn(repeated("0,1;", 37) + "00"), 150);
        Check.equal("no end behind the last comma", positionIn(repeated("0,1;", 37) + "0,"), 150);
        Check.equal("a number out of range at the end", positionIn(repeated("0,1;", 36) + "0,1x00"), 148);
        Check.equal("the longest number of digits", positionIn(repeated("1", 150)), 3);
    }

    private static void clearTextEmpties() {
        Check.sentence(22, "Empties the weather text.");
        SnowRounds x = Towns.withText("1,2;");
        x.addStreet(100, 0);
        String before = Snapshot.state(x);
        x.clearText();
        Check.equal("nothing else changes", Snapshot.state(x), before);
        Check.equal("no state is saved", Snapshot.savedStates(x), 1);
        Check.equal("there are no items", x.runText() + " " + x.value(0), "0 0");
        Towns.write(x, "z");
        Check.equal("a new text begins at 0", x.runText(), -10);
        x.clearText();
        Towns.write(x, "1,2");
        Check.equal("no old byte is behind it", x.runText(), -13);
        x.undo();
        Check.equal("undo does not bring it back", x.runText(), -13);
        SnowRounds y = Towns.withText("0,1x5;0,2x6;0,3x7;");
        y.runText();
        y.clearText();
        Towns.write(y, "0,1;");
        y.runText();
        Check.equal("no old item is behind a new one", y.value(0), 18 + 1);
    }

    private static void clearTextReturnsTheLength() {
        Check.sentence(22, "Returns the length that it had.");
        SnowRounds x = new SnowRounds();
        Check.equal("no text", x.clearText(), 0);
        x.append('1');
        Check.equal("one byte", x.clearText(), 1);
        Check.equal("no text again", x.clearText(), 0);
        Towns.write(x, repeated("0", 150));
        Check.equal("150 bytes", x.clearText(), 150);
    }

    /** A street that is always due, so that each hour is paid with 1 from the second on. */
    private static SnowRounds paying(String text) {
        SnowRounds x = Towns.withText(text);
        x.addStreet(100, 0);
        x.setTerms(0, 1, 1, 1);
        return x;
    }

    private static void runTextRuns() {
        Check.sentence(23, "Lets the hours of the weather text pass.");
        String[] texts = {"", "300,100x99;", "-300,0;", "5,9x1;-5,9x9;-10,1;", "-7,3x12;50,30x2;-300,100x01;300,0x10;"};
        int[][] runs = {{}, {300, 100, 99}, {-300, 0, 1}, {5, 9, 1, -5, 9, 9, -10, 1, 1},
            {-7, 3, 12, 50, 30, 2, -300, 100, 1, 300, 0, 10}};
        for (int i = 0; i < texts.length; i++) {
            SnowRounds x = roundTown();
            SnowRounds y = roundTown();
            Towns.write(x, texts[i]);
            int credits = 0;
            for (int k = 0; k < runs[i].length; k += 3) {
                credits += y.run(runs[i][k], runs[i][k + 1], runs[i][k + 2]);
            }
            Check.equal("credits of '" + texts[i] + "'", x.runText(), credits);
            Check.equal("state after '" + texts[i] + "'", Snapshot.state(x), Snapshot.state(y));
        }
    }

    private static SnowRounds roundTown() {
        SnowRounds x = Towns.oneRoute(300, 250, 9);
        x.addStreet(500, 1);
        x.addStop(0, 1);
        return x;
    }

    private static void textStays() {
        Check.sentence(23, "The text stays as it is.");
        SnowRounds x = paying("0,1x3;");
        Check.equal("the first time", x.runText(), 2);
        Check.equal("the second time", x.runText(), 3);
        Check.equal("its length", x.clearText(), 6);
        Towns.write(x, "0,1x3;x");
        Check.equal("an error", x.runText(), -16);
        Check.equal("its length", x.clearText(), 7);
    }

    private static void runTextIsUndoable() {
        Check.sentence(23, "Undoable (one saved state), if there is no syntax error.");
        SnowRounds none = paying("");
        Check.undoable("no items", none, () -> none.runText());
        SnowRounds one = paying("0,9;");
        Check.undoable("one item", one, () -> one.runText());
        SnowRounds many = paying(repeated("0,9;", 37));
        Check.undoable("37 items", many, () -> many.runText());
        Check.equal("it is hour 0 again", many.value(0), 0);
        SnowRounds wrong = paying("0,9;0,9");
        Check.changesNothing("an error", wrong, () -> wrong.runText());
        Check.equal("the state before the error", wrong.undo(), 1);
    }

    private static void runTextReturnsTheCredits() {
        Check.sentence(23, "Returns the credits that are paid in these hours; -10 minus the syntax error position if"
                + " there is a syntax error (then nothing changes).");
        SnowRounds x = paying("0,1x99;0,1;");
        Check.equal("99 of 100 hours", x.runText(), 99);
        Check.equal("all further hours", x.runText(), 100);
        Check.equal("all credits", x.value(6), 199);
        Check.equal("no items", paying("").runText(), 0);
        Check.equal("an error at 0", paying(";").runText(), -10);
        Check.equal("an error at 1", paying("-").runText(), -11);
        Check.equal("an error at 150", paying(repeated("0,1;", 37) + "0,").runText(), -160);
    }

    private static void runTextChangesNothingOnErrors() {
        SnowRounds x = paying("0,1x9;0,1x9;0,1x0;");
        x.run(0, 5, 3);
        Check.changesNothing("an error behind two items", x, () -> x.runText());
        Check.equal("the same error again", x.runText(), -10 - 16);
    }

    private static void runTextRefusesTooManyHours() {
        Check.sentence(23, "Throws `IllegalStateException` if there is no syntax error, and there would be more than 2000"
                + " hours");
        SnowRounds x = paying(repeated("0,0x99;", 20) + "0,0x20;");
        Check.equal("2000 hours", x.runText() + " " + x.value(0), "0 2000");
        Check.refused("2000 hours more", x, Check.STATE, () -> x.runText());
        x.clearText();
        Check.equal("no items", x.runText(), 0);
        Towns.write(x, "0,0;");
        Check.refused("one hour more", x, Check.STATE, () -> x.runText());
        Towns.write(x, "0,0");
        Check.equal("an error", x.runText(), -17);
        SnowRounds y = paying(repeated("0,0x99;", 20) + "0,0x21;");
        Check.refused("2001 hours", y, Check.STATE, () -> y.runText());
        SnowRounds z = paying("300,100x99;");
        Towns.passHundreds(z, 0, 19);
        z.run(0, 0, 1);
        Check.equal("99 hours from 1901", z.runText() >= 0 ? z.value(0) : -1, 2000);
        z.undo();
        z.run(0, 0, 1);
        Check.refused("99 hours from 1902", z, Check.STATE, () -> z.runText());
    }

    private static String groundAfter(String text) {
        SnowRounds x = Towns.oneStreet(100, 2);
        x.run(100, 50, 1);
        Towns.write(x, text);
        return x.runText() + ": " + x.value(0) + " " + Towns.ground(x, 0);
    }

    /** Before the text there is a depth of 30, a wetness of 40 and no ice, and one hour has passed. */
    private static void temperaturesOfItems() {
        Check.sentence(23, ITEMS);
        String[] texts = {"0,0;", "-0,0;", "00,0;", "-000,0;", "5,0;", "05,0;", "005,0;", "-5,0;", "-05,0;", "-005,0;",
            "10,0;", "99,0;", "100,0;", "-10,0;", "-99,0;", "-100,0;", "300,0;", "-300,0;", "299,0;", "-299,0;"};
        String[] grounds = {"30 40 0", "30 40 0", "30 40 0", "30 40 0", "29 42 0", "29 42 0", "29 42 0", "30 39 1",
            "30 39 1", "30 39 1", "28 44 0", "11 78 0", "10 80 0", "30 38 2", "30 30 10", "30 29 11", "0 100 0",
            "30 9 31", "0 100 0", "30 10 30"};
        for (int i = 0; i < texts.length; i++) {
            Check.equal(texts[i], groundAfter(texts[i]), "0: 2 " + grounds[i]);
        }
    }

    private static void snowfallsOfItems() {
        String[] snowfalls = {"0", "00", "000", "1", "01", "001", "9", "10", "010", "99", "099", "100"};
        int[] depths = {30, 30, 30, 31, 31, 31, 39, 40, 40, 129, 129, 130};
        for (int i = 0; i < snowfalls.length; i++) {
            String text = "0," + snowfalls[i] + ";";
            Check.equal(text, groundAfter(text), "0: 2 " + depths[i] + " 40 0");
        }
    }

    private static void hoursOfItems() {
        String[] texts = {"0,1;", "0,1x1;", "0,1x01;", "0,1x2;", "0,1x02;", "0,1x9;", "0,1x10;"};
        int[] hours = {1, 1, 1, 2, 2, 9, 10};
        for (int i = 0; i < texts.length; i++) {
            Check.equal(texts[i], groundAfter(texts[i]), "0: " + (1 + hours[i]) + " " + (30 + hours[i]) + " 40 0");
        }
        Check.equal("0,0x99;", groundAfter("0,0x99;"), "0: 100 30 40 0");
    }

    private static void manyItems() {
        Check.equal("two items", groundAfter("0,1;0,1;"), "0: 3 32 40 0");
        Check.equal("in their order", groundAfter("200,0;0,9;"), "0: 3 9 100 0");
        Check.equal("in another order", groundAfter("0,9;200,0;"), "0: 3 0 100 0");
        Check.equal("thaw, then frost", groundAfter("50,0;-50,0;"), "0: 3 20 54 6");
        Check.equal("frost, then thaw", groundAfter("-50,0;50,0;"), "0: 3 20 54 0");
        Check.equal("37 items", groundAfter(repeated("0,1;", 37)), "0: 38 67 40 0");
        Check.equal("a sign belongs to its item alone", groundAfter("-50,0;0,0;5,0;"), "0: 4 29 36 5");
        Check.equal("the hours belong to their item alone", groundAfter("0,0x9;0,1;"), "0: 11 31 40 0");
    }

    private static int positionIn(String text) {
        SnowRounds x = Towns.withText(text);
        int[] answer = new int[1];
        Check.changesNothing("'" + text + "'", x, () -> answer[0] = x.runText());
        return -10 - answer[0];
    }

    private static void errors(String[] texts, int... positions) {
        Check.equal("one position each", texts.length, positions.length);
        for (int i = 0; i < texts.length; i++) {
            Check.equal("error position of '" + texts[i] + "'", positionIn(texts[i]), positions[i]);
        }
    }

    private static void spacesAndNoItems() {
        Check.sentence(23, NO_SPACES);
        Check.equal("no items", groundAfter(""), "0: 1 30 40 0");
        errors(new String[] {" ", " 1,1;", "- 1,1;", "1 ,1;", "1, 1;", "1,1 ;", "1,1 x1;", "1,1x 1;", "1,1x1 ;", "1,1; ",
            "1,1; 1,1;", "12 3,1;", "1,1 1;", "1,1;\n"},
            0, 0, 1, 1, 2, 3, 3, 4, 5, 4, 4, 2, 3, 4);
    }

    private static void bytesThatCannotStand() {
        Check.sentence(23, POSITION);
        errors(new String[] {";", ",", "x", "+1,1;", "a", ".", "\u0000", "\u007f", ";1,1;"}, 0, 0, 0, 0, 0, 0, 0, 0, 0);
        errors(new String[] {"--1,1;", "-,1;", "-;", "-x", "1;", "1x", "1-", "1.", "1;1,1;"}, 1, 1, 1, 1, 1, 1, 1, 1, 1);
        errors(new String[] {"1,;", "1,-1;", "1,x1;", "1,,", "1,+"}, 2, 2, 2, 2, 2);
        errors(new String[] {"1,1,", "1,1X1;", "1,1-", "12,1,", "-1,1,"}, 3, 3, 3, 4, 4);
        errors(new String[] {"1,1x;", "1,1xx1;", "1,1x-1;", "1,1x,", "1,1x1x", "1,1x1,", "1,1x1-", "1,1x12x"},
            4, 4, 4, 4, 5, 5, 5, 6);
        errors(new String[] {"/,1;", ":,1;", "1,/;", "1,:;", "1,1x/;", "1,1x:;", "1/", "1:"}, 0, 0, 2, 2, 4, 4, 1, 1);
        errors(new String[] {"1,1;;", "1,1;,", "1,1;x1;"}, 4, 4, 4);
    }

    private static void digitsTooMany() {
        errors(new String[] {"1234", "1234,1;", "0000,1;", "-1234,1;", "-0001,1;", "9999,1;", "-9999"}, 3, 3, 3, 4, 4, 3,
            4);
        errors(new String[] {"1,1000", "1,0000;", "1,0011;", "1,9999;"}, 5, 5, 5, 5);
        errors(new String[] {"1,1x123", "1,1x001;", "1,1x000;", "1,1x100;"}, 6, 6, 6, 6);
    }

    private static void textsThatEndTooEarly() {
        errors(new String[] {"-", "1", "12", "123", "-1", "-123", "1,", "1,1", "1,12", "1,100", "1,1x", "1,1x1", "1,1x12",
            "-300,100x99", "1,1;-", "1,1;1", "1,1;1,1x9"},
            1, 1, 2, 3, 2, 4, 2, 3, 4, 5, 4, 5, 6, 11, 5, 5, 9);
    }

    /** Of all bytes, only these can stand at the places of "-1,1x1;". */
    private static void everyByteAtEveryPlace() {
        String[] can = {"-0123456789", "0123456789", ",0123456789", "0123456789", ";x0123456789", "0123456789",
            ";0123456789"};
        String whole = "-1,1x1;";
        for (int place = 0; place < whole.length(); place++) {
            for (int value = 0; value <= 127; value++) {
                SnowRounds x = Towns.withText(whole.substring(0, place));
                x.append(value);
                boolean stands = can[place].indexOf(value) >= 0 && !(place == 5 && value == '0');
                int position = stands ? place + 1 : place;
                Check.equal("byte " + value + " at " + place, x.runText(), stands && value == ';' ? 0 : -10 - position);
            }
        }
    }

    private static void positionsInLaterItems() {
        errors(new String[] {"1,1;-", "1,1x2;-5,100x99;301,0;", "1,1x2;-5,100x99;3,0;x", "1,1;2,2;3,3", "1,1;2,2;3,3x0;4",
            "1,1;2,2;3333"}, 5, 16, 20, 11, 12, 11);
    }

    private static void temperaturesOutOfRange() {
        Check.sentence(23, RANGES);
        errors(new String[] {"301,1;", "301", "301;", "301x", "301-", "301 ", "301,", "999,1;", "310,1;", "400,0;"},
            0, 0, 0, 0, 0, 0, 0, 0, 0, 0);
        errors(new String[] {"-301,1;", "-301", "-301;", "-301-", "-999,1;"}, 1, 1, 1, 1, 1);
        errors(new String[] {"300", "-300", "300,", "-300,", "300;", "-300x"}, 3, 4, 4, 5, 3, 4);
        errors(new String[] {"3010", "-3010", "9999"}, 3, 4, 3);
    }

    private static void snowfallsOutOfRange() {
        errors(new String[] {"1,101;", "1,101", "1,101x", "1,101,", "1,101 ", "1,999;", "1,200;", "-12,101;"},
            2, 2, 2, 2, 2, 2, 2, 4);
        errors(new String[] {"1,100", "1,100,", "1,100x", "1,1010"}, 5, 5, 6, 5);
    }

    private static void noHours() {
        errors(new String[] {"1,1x0;", "1,1x0", "1,1x0x", "1,1x0,", "1,1x00;", "1,1x00", "1,1x00-"}, 4, 4, 4, 4, 4, 4, 4);
        errors(new String[] {"1,1x000", "1,1x01", "1,1x10", "1,1x99"}, 6, 6, 6, 6);
    }

    private static void firstErrorCounts() {
        errors(new String[] {"301,101x0;", "300,101x0;", "300,100x0;", "301,1;z", "1,1x0;z", "1,1;301,101;"},
            0, 4, 8, 0, 4, 4);
        errors(new String[] {"1,1z301,1;", "1,1;z301"}, 3, 4);
    }

    private TextSentences() {
    }
}
