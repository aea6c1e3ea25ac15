/** Promises 11 to 16: the methods that only read. */
final class ReadingTests {
    private static final Class<IllegalArgumentException> ARGUMENT = IllegalArgumentException.class;
    private static final Class<IndexOutOfBoundsException> INDEX = IndexOutOfBoundsException.class;
    private static final int[] FAR_OUT = {Integer.MIN_VALUE, Integer.MAX_VALUE};

    static void runAll() {
        value();
        street();
        plow();
        stop();
        terms();
        meanDepth();
        readingSavesNothing();
    }

    /**
     * Two streets, two plows; 12 hours have passed. Plow 0 clears street 0 in hours 1, 4, 7 and 10
     * with 8 kilograms each time; plow 1 works on street 1 from hour 1 to hour 10 without salt, and
     * three complaints come about it.
     */
    private static SnowRounds busy() {
        SnowRounds x = new SnowRounds();
        x.addStreet(400, 0);
        x.addStreet(1000, 1);
        x.addPlow(300, 12);
        x.addPlow(100, 0);
        x.addStop(0, 0);
        x.addStop(0, 0);
        x.addStop(1, 1);
        x.deliver(500);
        x.setSpread(20);
        x.run(50, 45, 1);
        x.run(-35, 10, 11);
        return x;
    }

    private static void value() {
        Check.promise(11);
        SnowRounds x = busy();
        int[] want = {12, 2, 2, 1456, 20, 3, 60, 0, 1500, 32};
        for (int what = 0; what < want.length; what++) {
            Check.equal("value(" + what + ")", x.value(what), want[what]);
        }
        Check.equal("salt: store, loads and what was used",
                x.value(3) + x.plow(0, 2) + x.plow(1, 2) + x.value(9), x.value(8));
        for (int what : new int[] {-1, 10, FAR_OUT[0], FAR_OUT[1]}) {
            Check.refused("value(" + what + ")", x, ARGUMENT, () -> x.value(what));
        }
        SnowRounds y = new SnowRounds();
        for (int priority = 0; priority < 3; priority++) {
            y.addStreet(10, priority);
        }
        int[] due = {0, 1, 1, 2, 3};
        int[] snow = {19, 1, 19, 1, 20};
        for (int i = 0; i < due.length; i++) {
            y.run(0, snow[i], 1);
            Check.equal("streets that are due", y.value(7), due[i]);
        }
        y.undo();
        Check.equal("streets that are due, undone", y.value(7), 2);
    }

    private static void street() {
        Check.promise(12);
        SnowRounds x = busy();
        int[] want0 = {400, 0, 10, 0, 0, 0, 0, 4, 10};
        int[] want1 = {1000, 1, 10, 0, 20, 0, 0, 1, 10};
        compareStreets(x, want0, want1);
        for (int street : new int[] {-1, 2, 20, FAR_OUT[0], FAR_OUT[1]}) {
            Check.refused("street(" + street + ", 0)", x, INDEX, () -> x.street(street, 0));
            Check.refused("street(" + street + ", 9)", x, INDEX, () -> x.street(street, 9));
        }
        for (int what : new int[] {-1, 9, FAR_OUT[0], FAR_OUT[1]}) {
            Check.refused("street(1, " + what + ")", x, ARGUMENT, () -> x.street(1, what));
        }
        SnowRounds y = new SnowRounds();
        y.addStreet(10, 0);
        y.addPlow(100, 0);
        y.addStop(0, 0);
        Check.equal("never cleared", y.street(0, 8), SnowRounds.NONE);
        y.run(0, 20, 1);
        Check.equal("cleared in the first hour", y.street(0, 8), 0);
        y.run(0, 0, 4);
        y.run(0, 20, 1);
        Check.equal("cleared in hour 5", y.street(0, 8), 5);
        Check.equal("cleared twice", y.street(0, 7), 2);
    }

    private static void compareStreets(SnowRounds x, int[] want0, int[] want1) {
        for (int what = 0; what < want0.length; what++) {
            Check.equal("street(0, " + what + ")", x.street(0, what), want0[what]);
            Check.equal("street(1, " + what + ")", x.street(1, what), want1[what]);
        }
    }

    private static void plow() {
        Check.promise(13);
        SnowRounds x = busy();
        int[] want0 = {300, 12, 12, 2, 0, 0, 8, 1600};
        int[] want1 = {100, 0, 0, 1, 0, 0, 3, 1000};
        for (int what = 0; what < want0.length; what++) {
            Check.equal("plow(0, " + what + ")", x.plow(0, what), want0[what]);
            Check.equal("plow(1, " + what + ")", x.plow(1, what), want1[what]);
        }
        for (int plow : new int[] {-1, 2, 3, FAR_OUT[0], FAR_OUT[1]}) {
            Check.refused("plow(" + plow + ", 0)", x, INDEX, () -> x.plow(plow, 0));
            Check.refused("plow(" + plow + ", 8)", x, INDEX, () -> x.plow(plow, 8));
        }
        for (int what : new int[] {-1, 8, FAR_OUT[0], FAR_OUT[1]}) {
            Check.refused("plow(1, " + what + ")", x, ARGUMENT, () -> x.plow(1, what));
        }
    }

    private static void stop() {
        Check.promise(14);
        SnowRounds x = new SnowRounds();
        for (int i = 0; i < 20; i++) {
            x.addStreet(10, 0);
        }
        x.addPlow(100, 0);
        x.addPlow(100, 0);
        Check.refused("stop(0, 0) of no places", x, INDEX, () -> x.stop(0, 0));
        for (int i = 0; i < 12; i++) {
            x.addStop(0, 19 - i);
        }
        x.addStop(1, 7);
        for (int i = 0; i < 12; i++) {
            Check.equal("stop(0, " + i + ")", x.stop(0, i), 19 - i);
        }
        Check.equal("stop(1, 0)", x.stop(1, 0), 7);
        for (int plow : new int[] {-1, 2, 3, FAR_OUT[0], FAR_OUT[1]}) {
            Check.refused("stop(" + plow + ", 0)", x, INDEX, () -> x.stop(plow, 0));
        }
        for (int place : new int[] {-1, 1, 11, 12, FAR_OUT[0], FAR_OUT[1]}) {
            Check.refused("stop(1, " + place + ")", x, INDEX, () -> x.stop(1, place));
        }
        Check.refused("stop(0, 12)", x, INDEX, () -> x.stop(0, 12));
    }

    private static void terms() {
        Check.promise(15);
        SnowRounds x = busy();
        x.setTerms(1, 99, 48, 1000);
        int[] want = {20, 3, 30, 0, 99, 48, 1000, 3, 60, 12, 10, 0};
        for (int i = 0; i < want.length; i++) {
            Check.equal("terms(" + i / 4 + ", " + i % 4 + ")", x.terms(i / 4, i % 4), want[i]);
        }
        for (int priority : new int[] {-1, 3, FAR_OUT[0], FAR_OUT[1]}) {
            Check.refused("terms(" + priority + ", 0)", x, INDEX, () -> x.terms(priority, 0));
            Check.refused("terms(" + priority + ", 4)", x, INDEX, () -> x.terms(priority, 4));
        }
        for (int what : new int[] {-1, 4, FAR_OUT[0], FAR_OUT[1]}) {
            Check.refused("terms(2, " + what + ")", x, ARGUMENT, () -> x.terms(2, what));
        }
    }

    private static void meanDepth() {
        Check.promise(16);
        SnowRounds x = new SnowRounds();
        Check.equal("no streets", x.meanDepth(), 0.0);
        x.addStreet(100, 0);
        x.addStreet(300, 2);
        Check.equal("no snow", x.meanDepth(), 0.0);
        x.addPlow(100, 0);
        x.addStop(0, 0);
        x.run(0, 25, 1);
        Check.equal("25 mm on 300 of 400 meters", x.meanDepth(), 18.75);
        x.addStreet(10, 0);
        Check.equal("a third street", x.meanDepth(), 7500.0 / 410.0);
        SnowRounds y = new SnowRounds();
        for (int i = 0; i < 20; i++) {
            y.addStreet(i == 0 ? 1999 : 2000, 0);
        }
        for (int i = 0; i < 20; i++) {
            y.run(0, 100, 100);
        }
        Check.equal("the deepest snow", y.meanDepth(), 200000.0);
    }

    private static void readingSavesNothing() {
        SnowRounds x = busy();
        x.undo();
        Check.promise(11);
        Check.changesNothing("value", x, () -> x.value(7));
        Check.promise(12);
        Check.changesNothing("street", x, () -> x.street(0, 6));
        Check.promise(13);
        Check.changesNothing("plow", x, () -> x.plow(0, 6));
        Check.promise(14);
        Check.changesNothing("stop", x, () -> x.stop(0, 1));
        Check.promise(15);
        Check.changesNothing("terms", x, () -> x.terms(0, 3));
        Check.promise(16);
        Check.changesNothing("meanDepth", x, () -> x.meanDepth());
    }

    private ReadingTests() {
    }
}
