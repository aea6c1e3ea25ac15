/** The sentences that promises 17 to 20 rest on: the questions what would be. */
final class WhatIfSentences {
    private static final String BEYOND = "(All what-if questions go on beyond 2000 hours, too.)";

    static void runAll() {
        Check.each(
                WhatIfSentences::creditsInTells, WhatIfSentences::creditsInChangesNothing,
                WhatIfSentences::creditsInRanges, WhatIfSentences::creditsInReturnsTheCredits,
                WhatIfSentences::creditsInRefusesRanges, WhatIfSentences::bestExchangeFinds,
                WhatIfSentences::bestExchangeTakesEachPlow, WhatIfSentences::bestExchangeRanges,
                WhatIfSentences::bestExchangeReturnsTheLowest, WhatIfSentences::bestExchangeReturnsTheBest,
                WhatIfSentences::bestExchangeReturnsNone, WhatIfSentences::bestExchangeWithoutPairs,
                WhatIfSentences::bestExchangeIsPossible, WhatIfSentences::bestExchangeAtTheLastPlace,
                WhatIfSentences::bestExchangeRefusesNumbers, WhatIfSentences::bestExchangeRefusesRanges,
                WhatIfSentences::leastSpeedFinds, WhatIfSentences::leastSpeedCountsComplaints,
                WhatIfSentences::leastSpeedLeavesTheOthers, WhatIfSentences::leastSpeedTakesEachPlow,
                WhatIfSentences::leastSpeedRanges, WhatIfSentences::leastSpeedReturnsTheLeast,
                WhatIfSentences::leastSpeedIsNoThreshold, WhatIfSentences::leastSpeedRefusesNumbers,
                WhatIfSentences::leastSpeedRefusesRanges, WhatIfSentences::emptyInTells,
                WhatIfSentences::emptyInRanges, WhatIfSentences::emptyInReturnsTheHours,
                WhatIfSentences::emptyInEndsAt200, WhatIfSentences::emptyInRefusesRanges,
                WhatIfSentences::questionsGoBeyondTheLastHour);
    }

    private static void creditsInTells() {
        Check.sentence(17, "Tells what credits would be paid in further hours.");
        SnowRounds x = Towns.oneStreet(1000, 0);
        x.run(0, 20, 4);
        Check.equal("in two further hours", x.creditsIn(0, 0, 2), 60);
        SnowRounds y = town();
        for (int hours = 0; hours <= 100; hours += 20) {
            int told = y.creditsIn(-20, 9, hours);
            Check.equal("what run pays in " + hours + " hours", y.run(-20, 9, hours), told);
        }
        Check.isTrue("there were credits", y.value(6) > 0);
    }

    /** Three streets and two plows that are too slow for them. */
    private static SnowRounds town() {
        SnowRounds x = new SnowRounds();
        x.addStreet(900, 0);
        x.addStreet(700, 1);
        x.addStreet(800, 2);
        x.addPlow(200, 30);
        x.addPlow(150, 30);
        x.addStop(0, 0);
        x.addStop(0, 2);
        x.addStop(1, 1);
        x.addStop(1, 0);
        return x;
    }

    private static void creditsInChangesNothing() {
        SnowRounds x = town();
        x.run(10, 20, 5);
        Check.changesNothing("creditsIn", x, () -> x.creditsIn(300, 100, 100));
        SnowRounds full = Towns.brimful();
        Check.changesNothing("creditsIn of a full contract", full, () -> full.creditsIn(-300, 100, 100));
    }

    private static void creditsInRanges() {
        SnowRounds x = Towns.oneStreet(100, 0);
        Check.sentence(17, "`temperature`: -300 to 300");
        Check.equal("300 melts 60 of 80", x.creditsIn(300, 80, 4), 30);
        Check.equal("300 melts 60 of 79", x.creditsIn(300, 79, 4), 0);
        Check.equal("-300", x.creditsIn(-300, 20, 4), 30);
        Check.refusedWith("temperature", new int[] {-301, 301}, x, Check.ARGUMENT, v -> x.creditsIn(v, 0, 1));
        Check.sentence(17, "`snow`: 0 to 100");
        x.setTerms(0, 100, 1, 30);
        Check.equal("no snow", x.creditsIn(0, 0, 100), 0);
        Check.equal("99", x.creditsIn(0, 99, 2), 0);
        Check.equal("100", x.creditsIn(0, 100, 2), 30);
        Check.refusedWith("snow", new int[] {-1, 101}, x, Check.ARGUMENT, v -> x.creditsIn(0, v, 1));
        Check.sentence(17, "`hours`: 0 to 100");
        Check.equal("no hours", x.creditsIn(0, 100, 0), 0);
        Check.equal("1 hour", x.creditsIn(0, 100, 1), 0);
        Check.equal("99 hours", x.creditsIn(0, 100, 99), 98 * 30);
        Check.equal("100 hours", x.creditsIn(0, 100, 100), 99 * 30);
        Check.refusedWith("hours", new int[] {-1, 101}, x, Check.ARGUMENT, v -> x.creditsIn(0, 0, v));
    }

    private static void creditsInReturnsTheCredits() {
        Check.sentence(17, "Returns the credits.");
        SnowRounds x = new SnowRounds();
        Check.equal("without streets", x.creditsIn(0, 100, 100), 0);
        x.addStreet(100, 0);
        Check.equal("to the limit", x.creditsIn(0, 20, 3), 0);
        Check.equal("one hour more", x.creditsIn(0, 20, 4), 30);
        x.run(0, 20, 5);
        Check.equal("without those that were paid", x.creditsIn(0, 20, 1), 30);
    }

    private static void creditsInRefusesRanges() {
        Check.sentence(17, "Throws `IllegalArgumentException` if an argument is out of range");
        SnowRounds x = town();
        Check.refused("the temperature alone", x, Check.ARGUMENT, () -> x.creditsIn(-301, 100, 100));
        Check.refused("the snow alone", x, Check.ARGUMENT, () -> x.creditsIn(300, 101, 100));
        Check.refused("the hours alone", x, Check.ARGUMENT, () -> x.creditsIn(300, 100, 101));
        Check.refused("all", x, Check.ARGUMENT, () -> x.creditsIn(301, -1, -1));
    }

    /**
     * Streets of these priorities on one route, of which the plow clears 100 meters an hour. They
     * have 19 mm of snow, so that with 1 mm more they are due at once, and once cleared for long
     * not again. Those of priority 0 may wait 1 hour, those of priority 2 so long as is asked.
     */
    private static SnowRounds waitingLane(int length, int limitOf2, int... priorities) {
        SnowRounds x = new SnowRounds();
        x.setTerms(0, 20, 1, 10);
        x.setTerms(2, 20, limitOf2, 10);
        x.addPlow(100, 0);
        for (int i = 0; i < priorities.length; i++) {
            x.addStreet(length, priorities[i]);
            x.addStop(0, i);
        }
        x.run(0, 19, 1);
        return x;
    }

    /** The credits after this exchange, which is undone again. */
    private static int creditsWith(SnowRounds x, int place, int hours) {
        x.exchange(0, place);
        int credits = x.creditsIn(0, 1, hours);
        x.undo();
        return credits;
    }

    private static void bestExchangeFinds() {
        Check.sentence(18, "Finds the exchange of a route with which the least credits would be paid in further hours.");
        SnowRounds x = waitingLane(100, 3, 0, 2, 0);
        Check.equal("the last one waits too long", x.creditsIn(0, 1, 3), 10);
        Check.equal("the middle one can wait", x.bestExchange(0, 0, 1, 3), 1);
        Check.changesNothing("bestExchange", x, () -> x.bestExchange(0, 0, 1, 3));
        Check.equal("with it nothing is paid", creditsWith(x, 1, 3), 0);
        SnowRounds y = waitingLane(100, 48, 2, 0, 2, 1);
        y.setTerms(0, 20, 1, 10);
        y.setTerms(1, 20, 1, 1000);
        Check.equal("without an exchange", y.creditsIn(0, 1, 4), 2000);
        Check.equal("exchange 1 harms", creditsWith(y, 1, 4), 2010);
        Check.equal("exchange 2 helps", creditsWith(y, 2, 4), 1000);
        Check.equal("exchange 2 is the best", y.bestExchange(0, 0, 1, 4), 2);
        Check.equal("exchange 0 helps, but less", waitingLaneOfTwo().bestExchange(0, 0, 1, 8), 2);
    }

    /** Exchange 0 spares 20 credits, and exchange 2 spares 2000. */
    private static SnowRounds waitingLaneOfTwo() {
        SnowRounds x = waitingLane(200, 48, 2, 0, 2, 1);
        x.setTerms(1, 20, 1, 1000);
        Check.equal("without an exchange", x.creditsIn(0, 1, 8), 6020);
        Check.equal("with exchange 0", creditsWith(x, 0, 8), 6000);
        Check.equal("with exchange 2", creditsWith(x, 2, 8), 4020);
        return x;
    }

    private static void bestExchangeTakesEachPlow() {
        Check.sentence(18, "`plow`: number of a plow");
        SnowRounds x = waitingLane(200, 48, 2, 0);
        for (int plow = 1; plow < 3; plow++) {
            x.addPlow(100, 0);
            for (int i = 0; i < 3; i++) {
                x.addStop(plow, x.addStreet(100, i < 2 ? 2 : 0));
            }
        }
        Check.equal("plow 0", x.bestExchange(0, 0, 20, 3), 0);
        Check.equal("plow 1", x.bestExchange(1, 0, 20, 3), 1);
        Check.equal("plow 2", x.bestExchange(2, 0, 20, 3), 1);
        Check.refusedWith("plow", new int[] {-1, 3}, x, Check.INDEX, v -> x.bestExchange(v, 0, 0, 1));
    }

    private static void bestExchangeRanges() {
        SnowRounds x = waitingLane(200, 48, 2, 0);
        Check.sentence(18, "`temperature`: -300 to 300");
        Check.equal("-300", x.bestExchange(0, -300, 1, 2), 0);
        Check.equal("300, all melts", x.bestExchange(0, 300, 41, 2), SnowRounds.NONE);
        Check.equal("300, 20 mm stay", x.bestExchange(0, 300, 61, 2), 0);
        Check.refusedWith("temperature", new int[] {-301, 301}, x, Check.ARGUMENT,
                v -> x.bestExchange(0, v, 0, 1));
        Check.sentence(18, "`snow`: 0 to 100");
        Check.equal("no snow", x.bestExchange(0, 0, 0, 50), SnowRounds.NONE);
        Check.equal("100", x.bestExchange(0, 0, 100, 2), 0);
        Check.refusedWith("snow", new int[] {-1, 101}, x, Check.ARGUMENT, v -> x.bestExchange(0, 0, v, 1));
        Check.sentence(18, "`hours`: 0 to 50");
        Check.equal("no hours", x.bestExchange(0, 0, 1, 0), SnowRounds.NONE);
        Check.equal("1 hour", x.bestExchange(0, 0, 1, 1), SnowRounds.NONE);
        Check.equal("2 hours", x.bestExchange(0, 0, 1, 2), 0);
        Check.equal("50 hours", x.bestExchange(0, 0, 0, 50), SnowRounds.NONE);
        Check.refusedWith("hours", new int[] {-1, 51}, x, Check.ARGUMENT, v -> x.bestExchange(0, 0, 0, v));
        SnowRounds y = waitingLane(2000, 48, 2, 2, 0);
        y.setTerms(0, 20, 40, 10);
        Check.equal("the 41st hour is the first that pays", y.creditsIn(0, 1, 40), 0);
        Check.equal("50 hours of a long route", y.bestExchange(0, 0, 1, 50), 1);
    }

    private static final String BEST = "Returns the place for exchange(), of several the lowest one; NONE if no exchange"
            + " that is possible makes the credits less than they would be without one.";

    private static void bestExchangeReturnsTheLowest() {
        Check.sentence(18, BEST);
        SnowRounds x = waitingLane(200, 48, 2, 0, 2, 0);
        Check.equal("without an exchange", x.creditsIn(0, 1, 8), 80);
        Check.equal("exchange 0 helps", creditsWith(x, 0, 8), 60);
        Check.equal("exchange 1 harms", creditsWith(x, 1, 8), 100);
        Check.equal("exchange 2 helps as much as 0", creditsWith(x, 2, 8), 60);
        Check.equal("the lowest one", x.bestExchange(0, 0, 1, 8), 0);
        SnowRounds y = waitingLane(100, 2, 2, 0, 2, 0);
        y.setTerms(0, 20, 2, 10);
        y.setTerms(2, 20, 48, 10);
        Check.equal("exchange 0 does not help", creditsWith(y, 0, 4), y.creditsIn(0, 1, 4));
        Check.equal("exchange 1 does not help", creditsWith(y, 1, 4), y.creditsIn(0, 1, 4));
        Check.equal("the only one", y.bestExchange(0, 0, 1, 4), 2);
    }

    private static void bestExchangeReturnsTheBest() {
        Check.equal("the best one, not the first that helps", waitingLaneOfTwo().bestExchange(0, 0, 1, 8), 2);
    }

    private static void bestExchangeReturnsNone() {
        SnowRounds x = waitingLane(100, 48, 0, 2, 2);
        Check.equal("nothing is paid", x.creditsIn(0, 1, 3), 0);
        Check.equal("nothing is less", x.bestExchange(0, 0, 1, 3), SnowRounds.NONE);
        SnowRounds y = waitingLane(200, 48, 0, 0);
        Check.equal("something is paid", y.creditsIn(0, 1, 4), 20);
        Check.equal("an exchange pays as much", creditsWith(y, 0, 4), 20);
        Check.equal("as much is not less", y.bestExchange(0, 0, 1, 4), SnowRounds.NONE);
    }

    private static void bestExchangeWithoutPairs() {
        SnowRounds none = waitingLane(100, 48);
        none.addStreet(100, 0);
        Check.isTrue("something is paid", none.creditsIn(0, 100, 50) > 0);
        Check.equal("no place", none.bestExchange(0, 0, 100, 50), SnowRounds.NONE);
        SnowRounds one = waitingLane(100, 48, 2, 0);
        one.clearRoute(0);
        one.addStop(0, 0);
        Check.isTrue("something is paid", one.creditsIn(0, 1, 5) > 0);
        Check.equal("one place, also with an old one behind it", one.bestExchange(0, 0, 1, 5), SnowRounds.NONE);
        SnowRounds two = waitingLane(200, 48, 2, 0);
        Check.equal("two places", two.bestExchange(0, 0, 1, 2), 0);
        SnowRounds twelve = waitingLane(100, 48, 2, 2, 2, 2, 2, 2, 2, 2, 2, 2, 2, 0);
        Check.equal("the last two of twelve", twelve.bestExchange(0, 0, 1, 12), 10);
    }

    /** The same exchanges would help before the plow has begun. */
    private static void bestExchangeIsPossible() {
        SnowRounds x = waitingLane(1000, 48, 2, 0);
        Check.equal("before", x.bestExchange(0, 0, 1, 20), 0);
        x.run(0, 1, 1);
        Check.equal("place 0 is begun", Towns.way(x, 0), "0 100 1 100");
        Check.equal("then it is not possible", x.bestExchange(0, 0, 1, 20), SnowRounds.NONE);
        SnowRounds y = waitingLane(200, 48, 2, 2, 0);
        y.run(0, 1, 1);
        Check.equal("place 0 is begun", Towns.way(y, 0), "0 100 1 100");
        Check.equal("the places behind are possible", y.bestExchange(0, 0, 1, 8), 1);
        SnowRounds z = waitingLane(100, 2, 1, 2, 0, 1);
        z.setTerms(1, 20, 48, 10);
        z.run(0, 1, 1);
        Check.equal("place 1 is not begun", Towns.way(z, 0), "1 0 1 100");
        Check.equal("its exchange is possible", z.bestExchange(0, 0, 0, 3), 1);
    }

    private static void bestExchangeAtTheLastPlace() {
        SnowRounds x = waitingLane(150, 48, 2, 0, 2, 0);
        x.setTerms(2, 21, 48, 10);
        x.run(0, 1, 1);
        Check.equal("place 1 is begun", Towns.way(x, 0), "1 100 1 100");
        Check.refused("exchange(0, 0)", x, Check.STATE, () -> x.exchange(0, 0));
        Check.refused("exchange(0, 1)", x, Check.STATE, () -> x.exchange(0, 1));
        x.setTerms(2, 20, 48, 10);
        Check.equal("the last two are possible", x.bestExchange(0, 0, 0, 4), 2);
        x.run(0, 0, 3);
        Check.equal("place 3 is begun", Towns.way(x, 0), "3 100 1 400");
        Check.equal("then they are not", x.bestExchange(0, 0, 0, 4), SnowRounds.NONE);
    }

    private static void bestExchangeRefusesNumbers() {
        Check.sentence(18, "Throws `IndexOutOfBoundsException` if there is no such plow");
        SnowRounds none = new SnowRounds();
        Check.refused("no plow", none, Check.INDEX, () -> none.bestExchange(0, 0, 0, 0));
        SnowRounds x = town();
        Check.refusedWith("of two plows", new int[] {-1, 2, 3}, x, Check.INDEX, v -> x.bestExchange(v, 0, 0, 1));
    }

    private static void bestExchangeRefusesRanges() {
        Check.sentence(18, "Throws `IllegalArgumentException` if another argument is out of range");
        SnowRounds x = town();
        Check.refused("the temperature alone", x, Check.ARGUMENT, () -> x.bestExchange(0, -301, 0, 50));
        Check.refused("the snow alone", x, Check.ARGUMENT, () -> x.bestExchange(0, 300, 101, 50));
        Check.refused("the hours alone", x, Check.ARGUMENT, () -> x.bestExchange(0, 300, 100, 51));
        Check.refused("all", x, Check.ARGUMENT, () -> x.bestExchange(1, 301, -1, -1));
        x.clearRoute(0);
        Check.refused("also of an empty route", x, Check.ARGUMENT, () -> x.bestExchange(0, 0, 0, 51));
    }

    private static void leastSpeedFinds() {
        Check.sentence(19, "Finds the least speed of a plow, the others being as they are, with which no complaint would"
                + " come in further hours.");
        SnowRounds x = Towns.oneRoute(1000, 5000, 0);
        x.setTerms(0, 20, 1, 10);
        Check.equal("clear in 2 hours", x.leastSpeed(0, 0, 10, 3), 500);
        Check.changesNothing("leastSpeed", x, () -> x.leastSpeed(0, 0, 10, 3));
        x.addStreet(2000, 0);
        Check.equal("nobody clears street 1", x.leastSpeed(0, 0, 10, 50), SnowRounds.NONE);
        SnowRounds y = Towns.oneRoute(1000, 700, 0);
        y.setTerms(0, 20, 1, 10);
        y.run(0, 20, 1);
        Check.equal("300 meters are left", y.leastSpeed(0, 0, 0, 1), 300);
    }

    private static void leastSpeedCountsComplaints() {
        SnowRounds x = Towns.oneRoute(1000, 100, 0);
        x.setTerms(0, 20, 1, 0);
        Check.equal("complaints without credits", x.leastSpeed(0, 0, 20, 2), 500);
        Check.equal("no complaint by the limit", x.leastSpeed(0, 0, 20, 1), 100);
        x.run(0, 20, 3);
        Check.equal("two complaints have come", x.value(5), 2);
        Check.equal("they do not count", x.leastSpeed(0, 300, 0, 50), 100);
    }

    private static void leastSpeedLeavesTheOthers() {
        SnowRounds x = new SnowRounds();
        x.addStreet(1000, 0);
        x.addStreet(2000, 1);
        x.setTerms(0, 20, 1, 10);
        x.setTerms(1, 20, 1, 10);
        x.addPlow(100, 0);
        x.addPlow(900, 0);
        x.addStop(0, 0);
        x.addStop(1, 1);
        Check.equal("plow 1 is too slow", x.leastSpeed(0, 0, 20, 2), SnowRounds.NONE);
        Check.equal("plow 0 is too slow", x.leastSpeed(1, 0, 20, 2), SnowRounds.NONE);
        Check.equal("the speeds are as they were", x.plow(0, 0) + " " + x.plow(1, 0), "100 900");
        x.clearRoute(1);
        x.addStop(0, 1);
        Check.equal("plow 0 does all", x.leastSpeed(0, 0, 20, 2), 1500);
        Check.equal("plow 1 has no route", x.leastSpeed(1, 0, 20, 2), SnowRounds.NONE);
    }

    private static void leastSpeedTakesEachPlow() {
        Check.sentence(19, "`plow`: number of a plow");
        int[] lengths = {600, 1000, 2000};
        for (int plow = 0; plow < 3; plow++) {
            SnowRounds x = new SnowRounds();
            x.setTerms(0, 20, 1, 10);
            for (int i = 0; i < 3; i++) {
                x.addPlow(5000, 0);
                x.addStop(i, x.addStreet(lengths[i], 0));
            }
            Check.equal("plow " + plow, x.leastSpeed(plow, 0, 20, 2), lengths[plow] / 2);
            Check.refusedWith("plow", new int[] {-1, 3}, x, Check.INDEX, v -> x.leastSpeed(v, 0, 0, 1));
        }
    }

    private static void leastSpeedRanges() {
        SnowRounds x = Towns.oneRoute(1000, 100, 0);
        x.setTerms(0, 20, 1, 10);
        Check.sentence(19, "`temperature`: -300 to 300");
        Check.equal("-300", x.leastSpeed(0, -300, 20, 2), 500);
        Check.equal("300 melts 60 of 79", x.leastSpeed(0, 300, 79, 2), 100);
        Check.equal("300 melts 60 of 80", x.leastSpeed(0, 300, 80, 2), 500);
        Check.refusedWith("temperature", new int[] {-301, 301}, x, Check.ARGUMENT, v -> x.leastSpeed(0, v, 0, 1));
        Check.sentence(19, "`snow`: 0 to 100");
        x.setTerms(0, 200, 1, 10);
        Check.equal("no snow", x.leastSpeed(0, 0, 0, 50), 100);
        Check.equal("99", x.leastSpeed(0, 0, 99, 3), 100);
        Check.equal("100", x.leastSpeed(0, 0, 100, 3), 500);
        Check.refusedWith("snow", new int[] {-1, 101}, x, Check.ARGUMENT, v -> x.leastSpeed(0, 0, v, 1));
        Check.sentence(19, "`hours`: 0 to 50");
        x.setTerms(0, 1, 48, 10);
        x.clearRoute(0);
        Check.equal("no hours", x.leastSpeed(0, 0, 100, 0), 100);
        Check.equal("48 hours", x.leastSpeed(0, 0, 100, 48), 100);
        Check.equal("49 hours", x.leastSpeed(0, 0, 100, 49), SnowRounds.NONE);
        x.run(0, 0, 1);
        x.setTerms(0, 2, 48, 10);
        Check.equal("49 hours that snow 1 mm each", x.leastSpeed(0, 0, 1, 49), 100);
        Check.equal("50 hours that snow 1 mm each", x.leastSpeed(0, 0, 1, 50), SnowRounds.NONE);
        Check.refusedWith("hours", new int[] {-1, 51}, x, Check.ARGUMENT, v -> x.leastSpeed(0, 0, 0, v));
    }

    private static final String LEAST = "Returns the least speed of 100, 200, 300, .., 5000; NONE if there is none of"
            + " these.";

    private static void leastSpeedReturnsTheLeast() {
        Check.sentence(19, LEAST);
        int[] lengths = {10, 100, 101, 200, 201, 800, 801, 900, 901, 1000, 1001};
        int[] speeds = {100, 100, 200, 200, 300, 800, 900, 900, 1000, 1000, 1100};
        for (int i = 0; i < lengths.length; i++) {
            Check.equal("for " + lengths[i] + " meters", urgent(lengths[i]).leastSpeed(0, 0, 0, 1), speeds[i]);
        }
        Check.equal("for 4901 meters", urgent(2000, 2000, 901).leastSpeed(0, 0, 0, 1), 5000);
        Check.equal("for 5000 meters", urgent(2000, 2000, 1000).leastSpeed(0, 0, 0, 1), 5000);
        Check.equal("for 5001 meters", urgent(2000, 2000, 1001).leastSpeed(0, 0, 0, 1), SnowRounds.NONE);
    }

    /** Streets of these lengths, on one route, that have to be cleared in the next hour. */
    private static SnowRounds urgent(int... lengths) {
        SnowRounds x = new SnowRounds();
        x.setTerms(0, 20, 1, 10);
        for (int length : lengths) {
            x.addStreet(length, 0);
        }
        x.run(0, 20, 1);
        x.addPlow(150, 0);
        for (int i = 0; i < lengths.length; i++) {
            x.addStop(0, i);
        }
        return x;
    }

    /**
     * With 1000 meters an hour the plow stands before street 1 when it becomes due. With 1100 it
     * has passed it, comes back over street 0, and is too late; only with 1500 it is in time again.
     */
    private static void leastSpeedIsNoThreshold() {
        SnowRounds x = new SnowRounds();
        x.setTerms(0, 20, 48, 10);
        x.setTerms(1, 40, 1, 10);
        x.addStreet(1000, 0);
        x.addStreet(2000, 1);
        int[] speeds = {900, 1000, 1100, 1400, 1500, 5000};
        int[] credits = {10, 0, 10, 10, 0, 0};
        for (int i = 0; i < speeds.length; i++) {
            x.addPlow(speeds[i], 0);
            x.addStop(0, 0);
            x.addStop(0, 1);
            Check.equal("credits with " + speeds[i], x.creditsIn(0, 20, 3), credits[i]);
            Check.equal("the least speed", x.leastSpeed(0, 0, 20, 3), 1000);
            x.undo();
            x.undo();
            x.undo();
        }
    }

    private static void leastSpeedRefusesNumbers() {
        Check.sentence(19, "Throws `IndexOutOfBoundsException` if there is no such plow");
        SnowRounds none = new SnowRounds();
        Check.refused("no plow", none, Check.INDEX, () -> none.leastSpeed(0, 0, 0, 0));
        SnowRounds x = town();
        Check.refusedWith("of two plows", new int[] {-1, 2, 3}, x, Check.INDEX, v -> x.leastSpeed(v, 0, 0, 1));
    }

    private static void leastSpeedRefusesRanges() {
        Check.sentence(19, "Throws `IllegalArgumentException` if another argument is out of range");
        SnowRounds x = town();
        Check.refused("the temperature alone", x, Check.ARGUMENT, () -> x.leastSpeed(0, -301, 0, 50));
        Check.refused("the snow alone", x, Check.ARGUMENT, () -> x.leastSpeed(0, 300, 101, 50));
        Check.refused("the hours alone", x, Check.ARGUMENT, () -> x.leastSpeed(0, 300, 100, 51));
        Check.refused("all", x, Check.ARGUMENT, () -> x.leastSpeed(1, 301, -1, -1));
    }

    private static void emptyInTells() {
        Check.sentence(20, "Tells after how many further hours the store would be empty.");
        SnowRounds x = Towns.oneRoute(1000, 1000, 250);
        x.setSpread(50);
        Check.equal("250, then 50 an hour", x.emptyIn(0, 20), 16);
        Check.changesNothing("emptyIn", x, () -> x.emptyIn(0, 20));
        x.run(0, 20, 6);
        Check.equal("6 hours later", x.emptyIn(0, 20), 10);
        x.run(0, 20, 9);
        Check.equal("50 are left", x.value(3) + " " + x.emptyIn(0, 20), "50 1");
        x.run(0, 20, 1);
        Check.equal("it is empty", x.value(3) + " " + x.emptyIn(0, 20), "0 0");
    }

    private static void emptyInRanges() {
        SnowRounds x = Towns.oneRoute(1000, 1000, 500);
        x.setSpread(50);
        x.run(0, 0, 1);
        Check.sentence(20, "`temperature`: -300 to 300");
        Check.equal("-300", x.emptyIn(-300, 20), 11);
        Check.equal("300 melts 60 of 79", x.emptyIn(300, 79), 21);
        Check.equal("300 melts 60 of 80", x.emptyIn(300, 80), 11);
        Check.refusedWith("temperature", new int[] {-301, 301}, x, Check.ARGUMENT, v -> x.emptyIn(v, 0));
        Check.sentence(20, "`snow`: 0 to 100");
        Check.equal("no snow", x.emptyIn(0, 0), SnowRounds.NONE);
        Check.equal("1", x.emptyIn(0, 1), SnowRounds.NONE);
        x.setTerms(0, 100, 3, 30);
        Check.equal("99", x.emptyIn(0, 99), 21);
        Check.equal("100", x.emptyIn(0, 100), 11);
        Check.refusedWith("snow", new int[] {-1, 101}, x, Check.ARGUMENT, v -> x.emptyIn(0, v));
    }

    private static final String EMPTY = "Returns the smallest number of hours, 0 to 200; NONE if it would not be within"
            + " 200 hours.";

    private static void emptyInReturnsTheHours() {
        Check.sentence(20, EMPTY);
        SnowRounds x = Towns.oneRoute(100, 100, 999);
        Check.equal("one kilogram is left", x.emptyIn(0, 0), SnowRounds.NONE);
        x.addPlow(100, 1);
        Check.equal("the other plow has no route", x.emptyIn(0, 0), SnowRounds.NONE);
        x.addStop(1, 0);
        Check.equal("it takes the last one", x.emptyIn(0, 0), 1);
        x.run(0, 0, 1);
        Check.equal("no hour", x.emptyIn(0, 0), 0);
        Check.equal("no hour, warm", x.emptyIn(300, 100), 0);
        x.deliver(1);
        Check.equal("no plow has room for it", x.emptyIn(0, 0), SnowRounds.NONE);
        Check.equal("without plows", new SnowRounds().emptyIn(0, 100), SnowRounds.NONE);
    }

    /** With 20 mm an hour the plow uses, and loads again, 5 kilograms in each hour. */
    private static void emptyInEndsAt200() {
        SnowRounds x = Towns.oneRoute(500, 500, 5);
        Check.equal("1000 by 5", x.emptyIn(0, 20), 200);
        x.deliver(1);
        Check.equal("1001 by 5", x.emptyIn(0, 20), SnowRounds.NONE);
        x.run(0, 20, 1);
        Check.equal("996 by 5", x.emptyIn(0, 20), 200);
        x.run(0, 20, 1);
        Check.equal("991 by 5", x.emptyIn(0, 20), 199);
    }

    private static void emptyInRefusesRanges() {
        Check.sentence(20, "Throws `IllegalArgumentException` if an argument is out of range");
        SnowRounds x = town();
        Check.refused("the temperature alone", x, Check.ARGUMENT, () -> x.emptyIn(301, 100));
        Check.refused("the snow alone", x, Check.ARGUMENT, () -> x.emptyIn(-300, -1));
        Check.refused("both", x, Check.ARGUMENT, () -> x.emptyIn(-301, 101));
        SnowRounds empty = Towns.oneRoute(100, 100, 1000);
        empty.run(0, 0, 1);
        Check.refused("also with an empty store", empty, Check.ARGUMENT, () -> empty.emptyIn(301, 0));
    }

    private static void questionsGoBeyondTheLastHour() {
        for (int hour = 1999; hour <= 2000; hour++) {
            Check.sentence(17, BEYOND);
            SnowRounds x = at(hour);
            x.addStreet(100, 0);
            Check.equal("credits from hour " + hour, x.creditsIn(0, 20, 100), 97 * 30);
            Check.equal("the hours stay", x.value(0), hour);
            Check.sentence(18, BEYOND);
            SnowRounds y = at(hour);
            y.addPlow(100, 0);
            y.addStop(0, y.addStreet(1000, 2));
            y.addStop(0, y.addStreet(100, 0));
            Check.equal("exchange from hour " + hour, y.bestExchange(0, 0, 60, 10), 0);
            Check.sentence(19, BEYOND);
            SnowRounds z = at(hour);
            z.addPlow(100, 0);
            z.addStop(0, z.addStreet(1000, 0));
            Check.equal("speed from hour " + hour, z.leastSpeed(0, 0, 20, 50), 300);
            Check.sentence(20, BEYOND);
            SnowRounds w = at(hour);
            w.addPlow(500, 5);
            w.addStop(0, w.addStreet(500, 0));
            Check.equal("empty from hour " + hour, w.emptyIn(0, 20), 200);
        }
    }

    private static SnowRounds at(int hour) {
        SnowRounds x = new SnowRounds();
        Towns.passHundreds(x, 0, hour / 100);
        x.run(0, 0, hour % 100);
        return x;
    }

    private WhatIfSentences() {
    }
}
