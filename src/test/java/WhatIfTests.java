/** Promises 17 to 20: the questions what would be. */
final class WhatIfTests {
    private static final Class<IllegalArgumentException> ARGUMENT = IllegalArgumentException.class;
    private static final Class<IndexOutOfBoundsException> INDEX = IndexOutOfBoundsException.class;
    private static final int[] FAR_OUT = {Integer.MIN_VALUE, Integer.MAX_VALUE};

    static void runAll() {
        creditsIn();
        creditsInIsWhatRunPays();
        creditsInRefuses();
        bestExchange();
        bestExchangeOfSeveral();
        bestExchangeAtWork();
        lastPlace();
        bestExchangeRefuses();
        leastSpeed();
        leastSpeedIsNoThreshold();
        leastSpeedRefuses();
        emptyIn();
        emptyInRefuses();
        beyondTheLastHour();
    }

    private static void creditsIn() {
        Check.promise(17);
        SnowRounds x = new SnowRounds();
        Check.equal("without streets", x.creditsIn(0, 100, 100), 0);
        x.addStreet(100, 0);
        Check.equal("3 hours", x.creditsIn(0, 20, 3), 0);
        Check.equal("4 hours", x.creditsIn(0, 20, 4), 30);
        Check.equal("100 hours", x.creditsIn(-300, 100, 100), 97 * 30);
        Check.equal("no hours", x.creditsIn(300, 0, 0), 0);
        Check.changesNothing("creditsIn", x, () -> x.creditsIn(0, 100, 100));
        x.run(0, 20, 4);
        Check.equal("further hours", x.creditsIn(0, 0, 2), 60);
    }

    private static void creditsInIsWhatRunPays() {
        SnowRounds x = townOfThree();
        for (int hours = 0; hours <= 20; hours += 5) {
            int told = x.creditsIn(-20, 9, hours);
            Check.equal("credits in " + hours + " hours", x.run(-20, 9, hours), told);
        }
        Check.isTrue("there were credits", x.value(6) > 0);
    }

    /** Three streets and two plows that are too slow for them. */
    private static SnowRounds townOfThree() {
        SnowRounds x = new SnowRounds();
        x.addStreet(900, 0);
        x.addStreet(700, 1);
        x.addStreet(800, 2);
        x.addPlow(200, 30);
        x.addPlow(150, 30);
        x.addStop(0, 0);
        x.addStop(0, 2);
        x.addStop(1, 1);
        x.addStop(1, 0);
        return x;
    }

    private static void creditsInRefuses() {
        SnowRounds x = townOfThree();
        for (int temperature : new int[] {-301, 301, FAR_OUT[0], FAR_OUT[1]}) {
            Check.refused("creditsIn at " + temperature, x, ARGUMENT, () -> x.creditsIn(temperature, 0, 1));
        }
        for (int snow : new int[] {-1, 101, FAR_OUT[0], FAR_OUT[1]}) {
            Check.refused("creditsIn with snow " + snow, x, ARGUMENT, () -> x.creditsIn(0, snow, 1));
        }
        for (int hours : new int[] {-1, 101, FAR_OUT[0], FAR_OUT[1]}) {
            Check.refused("creditsIn for " + hours, x, ARGUMENT, () -> x.creditsIn(0, 0, hours));
        }
    }

    /**
     * Streets of these priorities on one route, of which the plow clears 100 meters an hour. They
     * have 19 mm of snow, so that with 1 mm more they are due at once, and once cleared for long
     * not again.
     */
    private static SnowRounds lane(int length, int... priorities) {
        SnowRounds x = new SnowRounds();
        for (int priority = 0; priority < 3; priority++) {
            x.setTerms(priority, 20, 1 + priority, 10);
        }
        x.addPlow(100, 0);
        for (int i = 0; i < priorities.length; i++) {
            x.addStreet(length, priorities[i]);
            x.addStop(0, i);
        }
        x.run(0, 19, 1);
        return x;
    }

    private static void bestExchange() {
        Check.promise(18);
        SnowRounds x = lane(100, 0, 2, 0);
        Check.equal("the last one waits too long", x.creditsIn(0, 1, 3), 10);
        Check.equal("the middle one can wait", x.bestExchange(0, 0, 1, 3), 1);
        Check.changesNothing("bestExchange", x, () -> x.bestExchange(0, 0, 1, 3));
        x.exchange(0, 1);
        Check.equal("nothing is paid", x.creditsIn(0, 1, 3), 0);
        Check.equal("there is no better one", x.bestExchange(0, 0, 1, 3), SnowRounds.NONE);
        SnowRounds y = lane(200, 2, 0, 1);
        Check.equal("without an exchange", y.creditsIn(0, 1, 6), 50);
        Check.equal("the first two", y.bestExchange(0, 0, 1, 6), 0);
        Check.equal("two hours", y.bestExchange(0, 0, 1, 2), 0);
        Check.equal("one hour", y.bestExchange(0, 0, 1, 1), SnowRounds.NONE);
        Check.equal("no hours", y.bestExchange(0, 0, 1, 0), SnowRounds.NONE);
        y.exchange(0, 0);
        Check.equal("with the exchange", y.creditsIn(0, 1, 6), 30);
        Check.equal("one place", lane(100, 0).bestExchange(0, 0, 50, 50), SnowRounds.NONE);
        Check.equal("no place", lane(100).bestExchange(0, 0, 50, 50), SnowRounds.NONE);
    }

    private static void bestExchangeOfSeveral() {
        SnowRounds x = lane(100, 2, 0, 2, 0);
        x.setTerms(0, 20, 2, 10);
        x.setTerms(2, 20, 48, 10);
        Check.equal("without an exchange", x.creditsIn(0, 1, 4), 10);
        Check.equal("exchange 0 does not help", creditsWith(x, 0, 4), 10);
        Check.equal("exchange 1 does not help", creditsWith(x, 1, 4), 10);
        Check.equal("exchange 2 helps", creditsWith(x, 2, 4), 0);
        Check.equal("the only one", x.bestExchange(0, 0, 1, 4), 2);
        SnowRounds y = lane(200, 2, 0, 2, 0);
        y.setTerms(2, 20, 48, 10);
        Check.equal("without an exchange", y.creditsIn(0, 1, 8), 80);
        Check.equal("exchange 0 helps", creditsWith(y, 0, 8), 60);
        Check.equal("exchange 1 harms", creditsWith(y, 1, 8), 100);
        Check.equal("exchange 2 helps as much", creditsWith(y, 2, 8), 60);
        Check.equal("the lowest one", y.bestExchange(0, 0, 1, 8), 0);
        SnowRounds z = lane(200, 2, 0, 2, 1);
        z.setTerms(1, 20, 1, 1000);
        z.setTerms(2, 20, 48, 10);
        Check.equal("exchange 0 helps", creditsWith(z, 0, 8), 6000);
        Check.equal("exchange 2 helps more", creditsWith(z, 2, 8), 4020);
        Check.equal("the best one", z.bestExchange(0, 0, 1, 8), 2);
    }

    /** The credits after this exchange, which is undone again. */
    private static int creditsWith(SnowRounds x, int place, int hours) {
        x.exchange(0, place);
        int credits = x.creditsIn(0, 1, hours);
        x.undo();
        return credits;
    }

    private static void bestExchangeAtWork() {
        SnowRounds x = lane(1000, 2, 0);
        x.setTerms(2, 20, 48, 10);
        Check.equal("it helps before", x.bestExchange(0, 0, 1, 20), 0);
        x.run(0, 1, 1);
        Check.equal("the plow has begun", x.plow(0, 5), 100);
        Check.isTrue("credits would be paid", x.creditsIn(0, 0, 20) > 0);
        Check.equal("the only exchange is not possible", x.bestExchange(0, 0, 1, 20), SnowRounds.NONE);
        SnowRounds y = lane(100, 1, 2, 0, 1);
        y.setTerms(1, 20, 48, 10);
        y.setTerms(2, 20, 2, 10);
        y.run(0, 1, 1);
        Check.equal("the plow is at place 1", y.plow(0, 4) + " " + y.plow(0, 5), "1 0");
        Check.equal("where it has not begun", y.bestExchange(0, 0, 0, 3), 1);
        y.addPlow(100, 0);
        Check.equal("the other plow has no route", y.bestExchange(1, 0, 0, 3), SnowRounds.NONE);
        otherPairsThanThePlows();
    }

    /** Behind the last place there is nothing to exchange with, also in a full route. */
    private static void lastPlace() {
        SnowRounds x = lane(100, 0, 2);
        x.clearRoute(0);
        x.addStop(0, 1);
        Check.isTrue("street 0 is paid for", x.creditsIn(0, 1, 5) > 0);
        Check.equal("one place", x.bestExchange(0, 0, 1, 5), SnowRounds.NONE);
        SnowRounds y = lane(100, 2, 2, 2, 2, 2, 2, 2, 2, 2, 2, 2, 0);
        y.setTerms(2, 20, 48, 10);
        Check.equal("twelve places", y.bestExchange(0, 0, 1, 12), 10);
    }

    /** The plow works at place 0, and places 1 and 2 would better be exchanged. */
    private static void otherPairsThanThePlows() {
        SnowRounds x = lane(200, 2, 2, 0);
        x.setTerms(2, 20, 48, 10);
        x.run(0, 1, 1);
        Check.equal("the plow works at place 0", x.plow(0, 4) + " " + x.plow(0, 5), "0 100");
        Check.equal("the others", x.bestExchange(0, 0, 1, 8), 1);
        SnowRounds y = lane(200, 2, 0, 2, 2);
        y.setTerms(2, 20, 48, 10);
        y.run(0, 1, 3);
        Check.equal("the plow works at place 1", y.plow(0, 4) + " " + y.plow(0, 5), "1 100");
        Check.refused("exchange(0, 0)", y, IllegalStateException.class, () -> y.exchange(0, 0));
        Check.equal("none helps", y.bestExchange(0, 0, 1, 8), SnowRounds.NONE);
    }

    private static void bestExchangeRefuses() {
        SnowRounds x = townOfThree();
        for (int plow : new int[] {-1, 2, FAR_OUT[0], FAR_OUT[1]}) {
            Check.refused("bestExchange of " + plow, x, INDEX, () -> x.bestExchange(plow, 0, 0, 1));
            Check.refused("bestExchange, all wrong, of " + plow, x, INDEX,
                    () -> x.bestExchange(plow, 301, 101, 51));
        }
        for (int temperature : new int[] {-301, 301, FAR_OUT[0], FAR_OUT[1]}) {
            Check.refused("bestExchange at " + temperature, x, ARGUMENT,
                    () -> x.bestExchange(0, temperature, 0, 1));
        }
        for (int snow : new int[] {-1, 101, FAR_OUT[0], FAR_OUT[1]}) {
            Check.refused("bestExchange with snow " + snow, x, ARGUMENT,
                    () -> x.bestExchange(0, 0, snow, 1));
        }
        for (int hours : new int[] {-1, 51, FAR_OUT[0], FAR_OUT[1]}) {
            Check.refused("bestExchange for " + hours, x, ARGUMENT, () -> x.bestExchange(0, 0, 0, hours));
        }
        Check.isTrue("the largest arguments", x.bestExchange(1, 300, 100, 50) >= SnowRounds.NONE);
        Check.isTrue("the smallest temperature", x.bestExchange(1, -300, 0, 50) >= SnowRounds.NONE);
    }

    private static void leastSpeed() {
        Check.promise(19);
        SnowRounds x = new SnowRounds();
        x.addStreet(1000, 0);
        x.setTerms(0, 20, 1, 10);
        x.addPlow(5000, 0);
        x.addStop(0, 0);
        Check.equal("to be clear in 2 hours", x.leastSpeed(0, 0, 10, 3), 500);
        Check.changesNothing("leastSpeed", x, () -> x.leastSpeed(0, 0, 10, 3));
        Check.equal("no complaint so soon", x.leastSpeed(0, 0, 20, 1), 100);
        Check.equal("no hours", x.leastSpeed(0, 300, 100, 0), 100);
        x.setTerms(0, 20, 1, 0);
        Check.equal("complaints count, not credits", x.leastSpeed(0, 0, 10, 3), 500);
        x.addStreet(2000, 0);
        Check.equal("nobody clears street 1", x.leastSpeed(0, 0, 10, 50), SnowRounds.NONE);
        Check.equal("nobody complains so soon", x.leastSpeed(0, 0, 10, 2), 100);
        x.addStop(0, 1);
        x.addStop(0, 1);
        Check.equal("both in 2 hours", x.leastSpeed(0, 0, 10, 3), 1500);
        x.run(0, 20, 2);
        Check.equal("the complaints before do not count", x.leastSpeed(0, 300, 0, 50), 100);
        othersAreAsTheyAre();
    }

    private static void othersAreAsTheyAre() {
        SnowRounds x = new SnowRounds();
        x.addStreet(1000, 0);
        x.addStreet(2000, 1);
        x.setTerms(0, 20, 1, 10);
        x.setTerms(1, 20, 1, 10);
        x.addPlow(100, 0);
        x.addPlow(900, 0);
        x.addStop(0, 0);
        x.addStop(1, 1);
        Check.equal("plow 1 is too slow", x.leastSpeed(0, 0, 20, 2), SnowRounds.NONE);
        x.clearRoute(1);
        x.addStop(0, 1);
        Check.equal("plow 0 does all", x.leastSpeed(0, 0, 20, 2), 1500);
        Check.equal("plow 1 has no route", x.leastSpeed(1, 0, 20, 2), SnowRounds.NONE);
        x.addStop(1, 1);
        x.addStop(1, 0);
        Check.equal("plow 1 does all", x.leastSpeed(1, 0, 20, 2), 1500);
        for (int length : new int[] {2000, 2000, 2000, 1000}) {
            x.addStop(1, x.addStreet(length, 0));
        }
        Check.equal("the greatest speed", x.leastSpeed(1, 0, 20, 2), 5000);
        x.addStop(1, x.addStreet(10, 0));
        Check.equal("it is too much", x.leastSpeed(1, 0, 20, 2), SnowRounds.NONE);
        Check.equal("the speeds are as they were", x.plow(0, 0) + " " + x.plow(1, 0), "100 900");
    }

    /**
     * With 1000 meters an hour the plow stands before street 1 when it becomes due. With 1100 it
     * has passed it, comes back over street 0, and is too late; only with 1500 it is in time again.
     */
    private static void leastSpeedIsNoThreshold() {
        SnowRounds x = new SnowRounds();
        x.setTerms(0, 20, 48, 10);
        x.setTerms(1, 40, 1, 10);
        x.addStreet(1000, 0);
        x.addStreet(2000, 1);
        int[] speeds = {900, 1000, 1100, 1400, 1500};
        int[] credits = {10, 0, 10, 10, 0};
        for (int i = 0; i < speeds.length; i++) {
            x.addPlow(speeds[i], 0);
            x.addStop(0, 0);
            x.addStop(0, 1);
            Check.equal("credits with " + speeds[i], x.creditsIn(0, 20, 3), credits[i]);
            Check.equal("the least speed", x.leastSpeed(0, 0, 20, 3), 1000);
            x.undo();
            x.undo();
            x.undo();
        }
        Check.equal("with progress", progressCounts(), 300);
    }

    private static int progressCounts() {
        SnowRounds x = new SnowRounds();
        x.addStreet(1000, 0);
        x.addPlow(700, 0);
        x.addStop(0, 0);
        x.setTerms(0, 20, 1, 10);
        x.run(0, 20, 1);
        return x.leastSpeed(0, 0, 0, 1);
    }

    private static void leastSpeedRefuses() {
        SnowRounds x = townOfThree();
        for (int plow : new int[] {-1, 2, FAR_OUT[0], FAR_OUT[1]}) {
            Check.refused("leastSpeed of " + plow, x, INDEX, () -> x.leastSpeed(plow, 0, 0, 1));
            Check.refused("leastSpeed, all wrong, of " + plow, x, INDEX,
                    () -> x.leastSpeed(plow, 301, 101, 51));
        }
        for (int temperature : new int[] {-301, 301, FAR_OUT[0], FAR_OUT[1]}) {
            Check.refused("leastSpeed at " + temperature, x, ARGUMENT,
                    () -> x.leastSpeed(0, temperature, 0, 1));
        }
        for (int snow : new int[] {-1, 101, FAR_OUT[0], FAR_OUT[1]}) {
            Check.refused("leastSpeed with snow " + snow, x, ARGUMENT, () -> x.leastSpeed(0, 0, snow, 1));
        }
        for (int hours : new int[] {-1, 51, FAR_OUT[0], FAR_OUT[1]}) {
            Check.refused("leastSpeed for " + hours, x, ARGUMENT, () -> x.leastSpeed(0, 0, 0, hours));
        }
        Check.equal("the smallest temperature", x.leastSpeed(0, -300, 0, 50), 100);
    }

    private static void emptyIn() {
        Check.promise(20);
        SnowRounds x = new SnowRounds();
        x.addStreet(1000, 0);
        Check.equal("no plow", x.emptyIn(0, 100), SnowRounds.NONE);
        x.addPlow(1000, 5);
        Check.equal("no route", x.emptyIn(0, 100), SnowRounds.NONE);
        x.addStop(0, 0);
        Check.equal("5 kilograms an hour", x.emptyIn(0, 20), 200);
        Check.equal("5 kilograms each second hour", x.emptyIn(0, 10), SnowRounds.NONE);
        Check.equal("no snow", x.emptyIn(0, 0), SnowRounds.NONE);
        x.addPlow(100, 994);
        x.addStop(1, 0);
        Check.equal("one kilogram is left", x.emptyIn(0, 0), SnowRounds.NONE);
        x.addPlow(100, 1);
        x.addStop(2, 0);
        Check.equal("the plows load all at once", x.emptyIn(0, 0), 1);
        x.undo();
        x.undo();
        x.run(0, 0, 1);
        x.addPlow(100, 1);
        x.addStop(2, 0);
        Check.equal("the last kilogram", x.emptyIn(0, 0), 1);
        x = new SnowRounds();
        x.addStreet(1000, 0);
        x.addPlow(1000, 5);
        x.addStop(0, 0);
        SnowRounds y = x;
        Check.changesNothing("emptyIn", y, () -> y.emptyIn(0, 20));
        x.deliver(1);
        Check.equal("one kilogram more", x.emptyIn(0, 20), SnowRounds.NONE);
        x.undo();
        x.run(0, 20, 100);
        Check.equal("100 hours later", x.emptyIn(0, 20), 100);
        x.run(0, 20, 99);
        Check.equal("the last but one", x.value(3), 5);
        Check.equal("one hour", x.emptyIn(-300, 0), 1);
        x.run(0, 20, 1);
        Check.equal("it is empty", x.emptyIn(0, 0), 0);
        Check.equal("it is empty, warm", x.emptyIn(300, 100), 0);
    }

    private static void emptyInRefuses() {
        SnowRounds x = townOfThree();
        for (int temperature : new int[] {-301, 301, FAR_OUT[0], FAR_OUT[1]}) {
            Check.refused("emptyIn at " + temperature, x, ARGUMENT, () -> x.emptyIn(temperature, 0));
        }
        for (int snow : new int[] {-1, 101, FAR_OUT[0], FAR_OUT[1]}) {
            Check.refused("emptyIn with snow " + snow, x, ARGUMENT, () -> x.emptyIn(0, snow));
        }
    }

    private static void beyondTheLastHour() {
        SnowRounds x = new SnowRounds();
        x.addStreet(1000, 0);
        x.setTerms(0, 20, 1, 10);
        for (int i = 0; i < 20; i++) {
            x.run(0, 0, 100);
        }
        x.addPlow(100, 5);
        x.addStop(0, 0);
        Check.promise(17);
        Check.equal("credits after hour 2000", x.creditsIn(0, 20, 5), 40);
        Check.promise(18);
        x.addStreet(100, 0);
        x.addStop(0, 1);
        Check.equal("exchange after hour 2000", x.bestExchange(0, 0, 20, 20), 0);
        x.undo();
        Check.promise(19);
        Check.equal("speed after hour 2000", x.leastSpeed(0, 0, 20, 1), 100);
        Check.promise(20);
        x.undo();
        x.undo();
        x.addPlow(1000, 5);
        x.addStop(0, 0);
        Check.equal("empty after hour 2000", x.emptyIn(0, 20), SnowRounds.NONE);
        x.deliver(0);
        Check.equal("hours are not counted", x.value(0), 2000);
    }

    private WhatIfTests() {
    }
}
