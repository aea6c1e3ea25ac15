/** Promises 21 to 23: the weather text. */
final class TextTests {
    private static final Class<IllegalArgumentException> ARGUMENT = IllegalArgumentException.class;
    private static final Class<IllegalStateException> STATE = IllegalStateException.class;

    static void runAll() {
        append();
        appendRefuses();
        clearText();
        runText();
        runTextIsLikeRuns();
        fullText();
        syntaxErrors();
        rangeErrors();
        errorsOfLaterItems();
        everyByteAtEveryPlace();
        runTextRefuses();
        undoLeavesTheText();
    }

    static void write(SnowRounds x, String text) {
        for (int i = 0; i < text.length(); i++) {
            x.append(text.charAt(i));
        }
    }

    private static void append() {
        Check.promise(21);
        SnowRounds x = new SnowRounds();
        Check.equal("append(0)", x.append(0), 1);
        Check.equal("append(127)", x.append(127), 2);
        Check.equal("append(59)", x.append(59), 3);
        Check.equal("digest", x.digest(), Snapshot.digest(x, 3, 0));
        Check.equal("byte 0 is in the text", x.runText(), -10);
    }

    private static void appendRefuses() {
        SnowRounds x = new SnowRounds();
        int[] wrong = {-1, 128, 256 + '0', Integer.MIN_VALUE, Integer.MAX_VALUE};
        for (int value : wrong) {
            Check.refused("append(" + value + ")", x, ARGUMENT, () -> x.append(value));
        }
        for (int i = 1; i <= 150; i++) {
            Check.equal("append number " + i, x.append('0'), i);
        }
        Check.refused("byte 151", x, STATE, () -> x.append('0'));
        for (int value : wrong) {
            Check.refused("byte 151, " + value, x, ARGUMENT, () -> x.append(value));
        }
        Check.equal("length", x.clearText(), 150);
        Check.equal("append after clearText", x.append('0'), 1);
    }

    private static void clearText() {
        Check.promise(22);
        SnowRounds x = new SnowRounds();
        Check.equal("an empty text", x.clearText(), 0);
        write(x, "1,2;");
        int saved = Snapshot.savedStates(x);
        Check.equal("clearText", x.clearText(), 4);
        Check.equal("it saves nothing", Snapshot.savedStates(x), saved);
        Check.equal("clearText again", x.clearText(), 0);
        write(x, "z");
        Check.equal("the new text begins at 0", x.runText(), -10);
        x.clearText();
        write(x, "1,2");
        Check.equal("the old bytes are gone", x.runText(), -13);
    }

    private static void runText() {
        Check.promise(23);
        SnowRounds x = new SnowRounds();
        x.addStreet(100, 0);
        Check.undoable("no items", x, () -> Check.equal("credits of no items", x.runText(), 0));
        write(x, "-0,20;");
        Check.undoable("one item", x, () -> Check.equal("credits", x.runText(), 0));
        x.runText();
        Check.equal("one hour", x.value(0), 1);
        Check.equal("the depth", x.street(0, 2), 20);
        write(x, "0,0x2;007,000x05;");
        Check.equal("the text stays", x.runText(), 20 * 0 + 30 * 6);
        Check.equal("hours", x.value(0), 9);
        Check.equal("depth and wetness", x.street(0, 2) + " " + x.street(0, 3), "35 10");
        x.undo();
        Check.equal("one saved state", x.value(0), 1);
    }

    private static void runTextIsLikeRuns() {
        String[] texts = {"300,100x99;", "-300,0;", "5,9x1;-5,9x9;-10,1;", "-000,000x99;", "0,0;00,00;000,000;",
            "-7,3x12;50,30x2;-300,100x01;300,0x10;"};
        int[][] weather = {{300, 100, 99}, {-300, 0, 1}, {5, 9, 1, -5, 9, 9, -10, 1, 1}, {0, 0, 99},
            {0, 0, 1, 0, 0, 1, 0, 0, 1}, {-7, 3, 12, 50, 30, 2, -300, 100, 1, 300, 0, 10}};
        for (int i = 0; i < texts.length; i++) {
            SnowRounds x = town();
            SnowRounds y = town();
            write(x, texts[i]);
            int credits = 0;
            for (int k = 0; k < weather[i].length; k += 3) {
                credits += y.run(weather[i][k], weather[i][k + 1], weather[i][k + 2]);
            }
            Check.equal("credits of " + texts[i], x.runText(), credits);
            Check.equal("state after " + texts[i], Snapshot.state(x), Snapshot.state(y));
        }
    }

    private static SnowRounds town() {
        SnowRounds x = new SnowRounds();
        x.addStreet(300, 0);
        x.addStreet(500, 1);
        x.addPlow(250, 9);
        x.addStop(0, 1);
        x.addStop(0, 0);
        return x;
    }

    private static void fullText() {
        SnowRounds x = new SnowRounds();
        for (int i = 0; i < 37; i++) {
            write(x, "0,1;");
        }
        x.addStreet(10, 2);
        Check.equal("37 items", x.runText(), 0);
        Check.equal("37 hours", x.value(0), 37);
        Check.equal("37 mm", x.street(0, 2), 37);
        write(x, "0,");
        Check.equal("the 38th item is not finished", x.runText(), -10 - 150);
        x.clearText();
        for (int i = 0; i < 37; i++) {
            write(x, "0,1;");
        }
        write(x, "00");
        Check.equal("the 38th item has no comma", x.runText(), -10 - 150);
        x.clearText();
        for (int i = 0; i < 37; i++) {
            write(x, "0,1;");
        }
        write(x, "0;");
        Check.equal("the 38th item is wrong", x.runText(), -10 - 149);
    }

    private static int positionIn(String text) {
        SnowRounds x = new SnowRounds();
        write(x, text);
        int[] answer = new int[1];
        Check.changesNothing("an error in " + text, x, () -> answer[0] = x.runText());
        return -10 - answer[0];
    }

    private static void error(String text, int position) {
        Check.equal("error position of '" + text + "'", positionIn(text), position);
    }

    private static void syntaxErrors() {
        error(" ", 0);
        error(";", 0);
        error(",", 0);
        error("x", 0);
        error("+1,1;", 0);
        error("-", 1);
        error("--1,1;", 1);
        error("-,1;", 1);
        error("-;", 1);
        error("1", 1);
        error("1;", 1);
        error("1x", 1);
        error("1-", 1);
        error("1 ,1;", 1);
        error("123", 3);
        error("1234", 3);
        error("0001,1;", 3);
        error("-0001,1;", 4);
        error("-1", 2);
        error("1,", 2);
        error("1,;", 2);
        error("1,-1;", 2);
        error("1, 1;", 2);
        error("1,x1;", 2);
        error("1,1", 3);
        error("1,1,", 3);
        error("1,1 ;", 3);
        error("1,1X1;", 3);
        error("1,0011;", 5);
        error("1,100", 5);
        error("1,1x", 4);
        error("1,1x;", 4);
        error("1,1xx1;", 4);
        error("1,1x-1;", 4);
        error("1,1x1", 5);
        error("1,1x1x", 5);
        error("1,1x1,", 5);
        error("1,1x12", 6);
        error("1,1x123", 6);
        error("1,1x001;", 6);
        error("1,1;;", 4);
        error("1,1;,", 4);
        error("1,1; ", 4);
        error("/,1;", 0);
        error(":,1;", 0);
        error("1,/;", 2);
        error("1,1x:;", 4);
    }

    private static void rangeErrors() {
        error("301,1;", 0);
        error("301", 0);
        error("301;", 0);
        error("999 ", 0);
        error("9999", 3);
        error("-301,1;", 1);
        error("-999", 1);
        error("-3010", 4);
        error("300", 3);
        error("-300", 4);
        error("1,101;", 2);
        error("1,101", 2);
        error("1,101x", 2);
        error("1,999,", 2);
        error("1,1010;", 5);
        error("1,100;z", 6);
        error("1,1x0;", 4);
        error("1,1x0", 4);
        error("1,1x0x", 4);
        error("1,1x00;", 4);
        error("1,1x00", 4);
        error("1,1x000", 6);
        error("1,1x01", 6);
        error("1,1x99;z", 7);
        error("301,101x0;", 0);
        error("300,101x0;", 4);
        error("300,100x0;", 8);
    }

    private static void errorsOfLaterItems() {
        error("1,1;-", 5);
        error("1,1x2;-5,100x99;301,0;", 16);
        error("1,1x2;-5,100x99;3,0;x", 20);
        error("1,1;2,2;3,3", 11);
        error("1,1;2,2;3,3x0;4", 12);
    }

    /** Of all bytes, only these can stand at the places of "-1,1x1;". */
    private static void everyByteAtEveryPlace() {
        String[] can = {"-0123456789", "0123456789", ",0123456789", "0123456789", ";x0123456789", "0123456789",
            ";0123456789"};
        String whole = "-1,1x1;";
        for (int place = 0; place < whole.length(); place++) {
            for (int value = 0; value <= 127; value++) {
                SnowRounds x = new SnowRounds();
                write(x, whole.substring(0, place));
                x.append(value);
                int answer = x.runText();
                boolean stands = can[place].indexOf(value) >= 0 && !(place == 5 && value == '0');
                if (!stands) {
                    Check.equal("byte " + value + " at " + place, answer, -10 - place);
                } else if (value == ';') {
                    Check.equal("byte " + value + " at " + place, answer, 0);
                } else {
                    Check.equal("byte " + value + " at " + place, answer, -10 - place - 1);
                }
            }
        }
    }

    private static void runTextRefuses() {
        SnowRounds x = town();
        for (int i = 0; i < 19; i++) {
            x.run(0, 0, 100);
        }
        write(x, "0,0x99;");
        Check.equal("99 hours", x.runText(), 0);
        write(x, "0,0;");
        Check.refused("100 hours", x, STATE, () -> x.runText());
        x.clearText();
        write(x, "0,0;0,0");
        Check.equal("an error comes before too many hours", x.runText(), -17);
        x.clearText();
        write(x, "0,0;");
        Check.equal("the last hour", x.runText(), 0);
        Check.equal("hours", x.value(0), 2000);
        Check.refused("one more", x, STATE, () -> x.runText());
        x.clearText();
        Check.equal("no hours more", x.runText(), 0);
        SnowRounds y = town();
        for (int i = 0; i < 21; i++) {
            write(y, "0,0x99;");
        }
        Check.refused("2079 hours", y, STATE, () -> y.runText());
    }

    private static void undoLeavesTheText() {
        SnowRounds x = town();
        write(x, "1,1");
        x.run(0, 0, 1);
        x.append(';');
        x.undo();
        Check.equal("the text after undo", x.runText(), 0);
        Check.equal("its hour", x.value(0), 1);
        x.clearText();
        x.undo();
        Check.equal("the cleared text after undo", x.clearText(), 0);
    }

    private TextTests() {
    }
}
