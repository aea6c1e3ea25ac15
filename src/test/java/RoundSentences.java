/** The sentences of promise 10 about the plows, the salt, and the streets that wait. */
final class RoundSentences {
    private static final String DUE = "A street is due if its depth is at least the trigger depth of its priority.";
    private static final String LOADS = "A plow with the place 0 and the progress 0 loads first: the smaller one of"
            + " its capacity minus its load and of what the store has.";
    private static final String SKIPS = "As long as it has meters left: if its progress is 0 and the street at its"
            + " place is not due, it goes on to the next place, without using meters.";
    private static final String WORKS = "Otherwise it works on this street (one that it has begun also if it is not"
            + " due any more): the smallest one of its meters and of the length minus the progress is used, and the"
            + " progress increases by it; if the progress is then the length, the street is cleared, and the plow"
            + " goes on to the next place, with the progress 0.";
    private static final String ROUND = "When it goes on from the last place (also if no street was due), its place"
            + " is 0, a round is counted, and it does no more in this hour.";
    private static final String NEED = "Its need is (length * spread + 999) / 1000 kilograms; the smaller one of the"
            + " need and the load is used, and the load decreases by it.";
    private static final String TAKES_ICE = "If the need is above 0, the ice decreases by ice * (what is used) / need.";
    private static final String WAITS = "Each street that is due waits one hour more, and if it has then waited for"
            + " more hours than the limit of its priority, a complaint is counted, and the credit of its priority is"
            + " paid (in each such hour again).";

    static void runAll() {
        Check.each(
                RoundSentences::dueAtTheTrigger, RoundSentences::dueAtItsOwnTrigger, RoundSentences::plowsTakeTurns,
                RoundSentences::emptyRouteDoesNothing, RoundSentences::plowLoadsWhatFits,
                RoundSentences::plowLoadsWhatThereIs, RoundSentences::plowLoadsAtTheStartAlone,
                RoundSentences::metersAreTheSpeed, RoundSentences::plowSkipsWhatIsNotDue,
                RoundSentences::plowSkipsWithMetersAlone, RoundSentences::plowWorksToTheLength,
                RoundSentences::plowFinishesWhatItHasBegun, RoundSentences::sameStreetTwice,
                RoundSentences::roundEndsAtTheLastPlace, RoundSentences::roundEndsTheHour,
                RoundSentences::roundWithoutDueStreets, RoundSentences::clearedStreetHasNoSnow,
                RoundSentences::needIsRoundedUp, RoundSentences::needAndLoad, RoundSentences::iceIsTaken,
                RoundSentences::noNeedTakesNoIce, RoundSentences::waitingToTheLimit,
                RoundSentences::waitingToTheEndsOfTheLimit, RoundSentences::waitingOfEachPriority,
                RoundSentences::waitingBeginsAnew, RoundSentences::storeIsNeverBelowNothing);
    }

    private static void dueAtTheTrigger() {
        Check.sentence(10, DUE);
        SnowRounds x = Towns.oneRoute(100, 100, 0);
        x.run(0, 19, 1);
        Check.equal("19 of 20 mm", Towns.way(x, 0), "0 0 1 0");
        x.run(0, 1, 1);
        Check.equal("20 of 20 mm", Towns.way(x, 0), "0 0 2 100");
        x.run(0, 21, 1);
        Check.equal("21 of 20 mm", Towns.way(x, 0), "0 0 3 200");
    }

    private static void dueAtItsOwnTrigger() {
        SnowRounds x = Towns.streetsAndPlows(0, 0, 1, 2);
        int[] depths = {19, 20, 39, 40, 59, 60};
        int[] due = {0, 1, 1, 2, 2, 3};
        for (int i = 0; i < depths.length; i++) {
            x.run(0, depths[i] - x.street(0, 2), 1);
            Check.equal("streets due at " + depths[i] + " mm", x.value(7), due[i]);
        }
        x.setTerms(0, 200, 1, 1);
        x.setTerms(1, 61, 1, 1);
        Check.equal("with other triggers", x.street(0, 6) + " " + x.street(1, 6) + " " + x.street(2, 6), "0 0 1");
        x.run(0, 100, 1);
        x.run(0, 39, 1);
        Check.equal("199 of 200 mm", x.street(0, 6), 0);
        x.run(0, 1, 1);
        Check.equal("200 of 200 mm", x.street(0, 6), 1);
        SnowRounds y = Towns.oneStreet(100, 0);
        y.setTerms(0, 1, 1, 1);
        Check.equal("0 of 1 mm", y.street(0, 6), 0);
        y.run(0, 1, 1);
        Check.equal("1 of 1 mm", y.street(0, 6), 1);
    }

    private static void plowsTakeTurns() {
        Check.sentence(10, "The plows work in ascending order.");
        SnowRounds x = Towns.oneStreet(300, 0);
        for (int i = 0; i < 3; i++) {
            x.addPlow(300, 600);
        }
        x.addStop(2, 0);
        x.addStop(1, 0);
        x.addStop(0, 0);
        x.run(0, 20, 1);
        Check.equal("plow 0 loads first and clears", Snapshot.plow(x, 0), " 300 600 597 1 0 0 1 300");
        Check.equal("plow 1 has what is left", Snapshot.plow(x, 1), " 300 600 400 1 0 0 1 0");
        Check.equal("plow 2 has nothing", Snapshot.plow(x, 2), " 300 600 0 1 0 0 1 0");
    }

    private static void emptyRouteDoesNothing() {
        Check.sentence(10, "A plow whose route is empty does nothing.");
        SnowRounds x = Towns.oneStreet(300, 0);
        x.addPlow(300, 600);
        x.run(0, 50, 3);
        Check.equal("the plow", Snapshot.plow(x, 0), " 300 600 0 0 0 0 0 0");
        Check.equal("the store", x.value(3), 1000);
        SnowRounds y = Towns.oneRoute(300, 200, 50);
        y.run(0, 50, 1);
        y.clearRoute(0);
        y.run(0, 50, 3);
        Check.equal("a cleared route", Snapshot.plow(y, 0), " 200 50 50 0 0 0 0 200");
        Check.equal("the street", y.street(0, 7), 0);
    }

    private static void plowLoadsWhatFits() {
        Check.sentence(10, LOADS);
        int[] capacities = {0, 1, 999, 1000, 1001, 5000};
        int[] loads = {0, 1, 999, 1000, 1000, 1000};
        for (int i = 0; i < capacities.length; i++) {
            SnowRounds x = Towns.oneRoute(300, 100, capacities[i]);
            x.run(0, 0, 1);
            Check.equal("load with the capacity " + capacities[i], x.plow(0, 2), loads[i]);
            Check.equal("the store then", x.value(3), 1000 - loads[i]);
        }
    }

    private static void plowLoadsWhatThereIs() {
        SnowRounds x = Towns.oneRoute(300, 300, 998);
        x.run(0, 0, 1);
        Check.equal("full", x.plow(0, 2) + " " + x.value(3), "998 2");
        x.run(0, 20, 1);
        Check.equal("a full plow loads nothing, and uses 3", x.plow(0, 2) + " " + x.value(3), "995 2");
        x.run(0, 0, 1);
        Check.equal("3 would fit, 2 are there", x.plow(0, 2) + " " + x.value(3), "997 0");
        x.run(0, 0, 1);
        Check.equal("nothing is there", x.plow(0, 2) + " " + x.value(3), "997 0");
        x.deliver(1);
        x.run(0, 0, 1);
        Check.equal("1 would fit, 1 is there", x.plow(0, 2) + " " + x.value(3), "998 0");
    }

    private static void plowLoadsAtTheStartAlone() {
        SnowRounds x = Towns.oneRoute(200, 100, 0);
        x.undo();
        x.undo();
        x.addPlow(100, 2000);
        x.addStop(0, 0);
        x.addStop(0, x.addStreet(100, 0));
        x.run(0, 20, 1);
        Check.equal("place 0, begun", Snapshot.plow(x, 0), " 100 2000 1000 2 0 100 0 100");
        x.deliver(500);
        x.run(0, 20, 1);
        Check.equal("no load with a progress", Snapshot.plow(x, 0), " 100 2000 998 2 1 0 0 200");
        x.run(0, 20, 1);
        Check.equal("no load at place 1", Snapshot.plow(x, 0), " 100 2000 997 2 0 0 1 300");
        x.run(0, 0, 1);
        Check.equal("load at place 0", Snapshot.plow(x, 0), " 100 2000 1497 2 0 100 1 400");
    }

    private static void metersAreTheSpeed() {
        Check.sentence(10, "Then it has as many meters as its speed tells.");
        int[] speeds = {100, 299, 300, 301, 5000};
        String[] ways = {"0 100 0 100", "0 299 0 299", "0 0 1 300", "0 0 1 300", "0 0 1 300"};
        for (int i = 0; i < speeds.length; i++) {
            SnowRounds x = Towns.oneRoute(300, speeds[i], 0);
            x.run(0, 20, 1);
            Check.equal("with " + speeds[i] + " meters", Towns.way(x, 0), ways[i]);
        }
        SnowRounds y = Towns.oneRoute(300, 350, 0);
        y.addStop(0, y.addStreet(1000, 0));
        y.run(0, 20, 1);
        y.run(0, 0, 1);
        Check.equal("each hour anew", Towns.way(y, 0), "1 400 0 700");
        SnowRounds z = Towns.oneRoute(300, 500, 0);
        z.run(0, 20, 2);
        Check.equal("what is left does not stay", Towns.way(z, 0), "0 0 2 600");
    }

    private static void plowSkipsWhatIsNotDue() {
        Check.sentence(10, SKIPS);
        SnowRounds x = Towns.streetsAndPlows(1, 2, 2, 0, 2);
        for (int i = 0; i < 4; i++) {
            x.addStop(0, i);
        }
        x.run(0, 59, 1);
        Check.equal("over two places to the street that is due", Towns.way(x, 0), "3 0 0 100");
        Check.equal("it alone is cleared", x.street(0, 7) + x.street(1, 7) + x.street(2, 7) + x.street(3, 7), 1);
        Check.equal("those that are not due have their snow", x.street(0, 2) + " " + x.street(3, 2), "59 59");
        x.run(0, 0, 1);
        Check.equal("over the last place", Towns.way(x, 0), "0 0 1 100");
    }

    private static void plowSkipsWithMetersAlone() {
        SnowRounds x = Towns.streetsAndPlows(1, 0, 2, 0);
        for (int i = 0; i < 3; i++) {
            x.addStop(0, i);
        }
        x.run(0, 20, 1);
        Check.equal("no meter is left for the next place", Towns.way(x, 0), "1 0 0 100");
        SnowRounds y = Towns.streetsAndPlows(0, 0, 2, 2, 0);
        y.addPlow(101, 0);
        for (int i = 0; i < 4; i++) {
            y.addStop(0, i);
        }
        y.run(0, 20, 1);
        Check.equal("one meter is left for the places behind", Towns.way(y, 0), "3 1 0 101");
    }

    private static void plowWorksToTheLength() {
        Check.sentence(10, WORKS);
        SnowRounds x = Towns.lane(150, 400, 10, 2000);
        x.run(0, 20, 1);
        Check.equal("begun", Towns.way(x, 0) + " " + x.street(0, 7), "0 150 0 150 0");
        x.run(0, 20, 1);
        Check.equal("not finished", Towns.way(x, 0) + " " + x.street(0, 7), "0 300 0 300 0");
        x.run(0, 20, 1);
        Check.equal("the rest, the next one, and 40 meters", Towns.way(x, 0), "2 40 0 450");
        Check.equal("two are cleared", x.street(0, 7) + " " + x.street(1, 7) + " " + x.street(2, 7), "1 1 0");
        SnowRounds y = Towns.lane(100, 101, 100);
        y.run(0, 20, 1);
        Check.equal("one meter is missing", Towns.way(y, 0) + " " + y.street(0, 7), "0 100 0 100 0");
        y.run(0, 0, 1);
        Check.equal("it is done, and 99 of the next", Towns.way(y, 0) + " " + y.street(0, 7), "1 99 0 200 1");
        SnowRounds z = Towns.lane(100, 100, 100);
        z.run(0, 20, 1);
        Check.equal("exactly the length", Towns.way(z, 0) + " " + z.street(0, 7), "1 0 0 100 1");
    }

    private static void plowFinishesWhatItHasBegun() {
        SnowRounds x = Towns.oneRoute(300, 299, 0);
        x.run(0, 20, 1);
        x.run(300, 0, 1);
        Check.equal("though the snow has melted", Towns.way(x, 0) + " " + x.street(0, 7), "0 0 1 300 1");
        SnowRounds y = Towns.oneRoute(300, 299, 0);
        y.run(0, 20, 1);
        y.setTerms(0, 200, 1, 1);
        y.run(0, 0, 1);
        Check.equal("though the trigger is higher now", Towns.way(y, 0) + " " + y.street(0, 7), "0 0 1 300 1");
        SnowRounds z = Towns.oneRoute(300, 200, 0);
        z.addPlow(300, 0);
        z.addStop(1, 0);
        z.run(0, 20, 1);
        Check.equal("another plow has cleared it", Towns.way(z, 1) + " " + z.street(0, 7), "0 0 1 300 1");
        z.run(0, 0, 1);
        Check.equal("it is cleared once more", Towns.way(z, 0) + " " + z.street(0, 7), "0 0 1 300 2");
        Check.equal("in this hour", z.street(0, 8), 1);
    }

    private static void sameStreetTwice() {
        Check.sentence(10, "A plow has a speed, 100 to 5000 meters an hour, a capacity, 0 to 5000 kilograms, a load"
                + " (initially 0), and a route, a sequence of at most 12 streets, initially empty, in which a street"
                + " can stand more than once.");
        SnowRounds x = Towns.oneRoute(100, 300, 0);
        for (int i = 0; i < 11; i++) {
            x.addStop(0, 0);
        }
        x.run(0, 20, 1);
        Check.equal("once cleared it is not due again", Towns.way(x, 0) + " " + x.street(0, 7), "0 0 1 100 1");
    }

    private static void roundEndsAtTheLastPlace() {
        Check.sentence(10, ROUND);
        SnowRounds x = Towns.lane(200, 100, 100);
        x.run(0, 20, 1);
        Check.equal("the meters end with the last place", Towns.way(x, 0), "0 0 1 200");
        SnowRounds y = Towns.lane(199, 100, 100);
        y.run(0, 20, 1);
        Check.equal("one meter less", Towns.way(y, 0), "1 99 0 199");
        SnowRounds z = Towns.lane(5000, 10, 10, 10, 10, 10, 10, 10, 10, 10, 10, 10, 10);
        z.run(0, 20, 1);
        Check.equal("12 places", Towns.way(z, 0), "0 0 1 120");
        z.run(0, 20, 2);
        Check.equal("one round an hour", Towns.way(z, 0), "0 0 3 360");
    }

    /** With meters left, the plow does not begin its first street again before the next hour. */
    private static void roundEndsTheHour() {
        SnowRounds x = Towns.lane(110, 100, 100);
        x.run(0, 20, 1);
        Check.equal("10 meters of place 1", Towns.way(x, 0), "1 10 0 110");
        x.run(0, 20, 1);
        Check.equal("street 0 is due again", x.street(0, 6), 1);
        Check.equal("but its round is over", Towns.way(x, 0), "0 0 1 200");
        x.run(0, 0, 1);
        Check.equal("in the next hour it begins", Towns.way(x, 0), "0 0 2 300");
        SnowRounds y = Towns.streetsAndPlows(1, 0, 2);
        y.addStop(0, 0);
        y.addStop(0, 1);
        y.run(0, 20, 1);
        Check.equal("the plow is before place 1", Towns.way(y, 0), "1 0 0 100");
        y.run(0, 20, 1);
        Check.equal("going on from there ends the hour, too", Towns.way(y, 0) + " " + y.street(0, 6), "0 0 1 100 1");
    }

    private static void roundWithoutDueStreets() {
        SnowRounds x = Towns.lane(100, 100, 100, 100);
        x.run(0, 0, 1);
        Check.equal("no street is due", Towns.way(x, 0), "0 0 1 0");
        x.run(0, 0, 7);
        Check.equal("a round an hour", Towns.way(x, 0), "0 0 8 0");
    }

    private static void clearedStreetHasNoSnow() {
        Check.sentence(10, "A street that is cleared has the depth 0 then.");
        SnowRounds x = Towns.oneRoute(100, 100, 0);
        x.run(10, 22, 1);
        Check.equal("it is wet", Towns.ground(x, 0), "0 4 0");
        SnowRounds y = Towns.oneRoute(150, 100, 0);
        y.run(0, 100, 1);
        Check.equal("before it is finished", y.street(0, 2), 100);
        y.run(0, 100, 1);
        Check.equal("with the snow of the hour", y.street(0, 2), 0);
        y.run(0, 5, 1);
        Check.equal("then it snows again", y.street(0, 2), 5);
    }

    private static void needIsRoundedUp() {
        Check.sentence(10, NEED);
        int[] lengths = {100, 101, 199, 200, 201, 10, 2000, 2000, 1000, 1001, 20};
        int[] spreads = {10, 10, 10, 10, 10, 1, 0, 50, 1, 1, 50};
        int[] needs = {1, 2, 2, 2, 3, 1, 0, 100, 1, 2, 1};
        for (int i = 0; i < needs.length; i++) {
            SnowRounds x = Towns.oneRoute(lengths[i], 2000, 500);
            x.setSpread(spreads[i]);
            x.run(0, 20, 1);
            String what = spreads[i] + " grams on " + lengths[i] + " meters";
            Check.equal(what + " are used", x.value(9), needs[i]);
            Check.equal(what + " are taken from the load", x.plow(0, 2), 500 - needs[i]);
        }
    }

    private static void needAndLoad() {
        int[] loads = {0, 1, 4, 5, 6};
        int[] used = {0, 1, 4, 5, 5};
        for (int i = 0; i < loads.length; i++) {
            SnowRounds x = Towns.oneRoute(500, 1000, loads[i]);
            x.run(0, 20, 1);
            Check.equal("used of the load " + loads[i], x.value(9), used[i]);
            Check.equal("left of the load " + loads[i], x.plow(0, 2), loads[i] - used[i]);
            Check.equal("the street is cleared", Towns.ground(x, 0), "0 0 0");
        }
        SnowRounds y = new SnowRounds();
        y.addPlow(1000, 5);
        for (int i = 0; i < 3; i++) {
            y.addStop(0, y.addStreet(300, 0));
        }
        y.run(0, 20, 1);
        Check.equal("3, then 2, then nothing", y.value(9) + " " + y.plow(0, 2), "5 0");
    }

    /** A street of 1000 meters, with the ice, and enough snow to be due with the next hour. */
    private static SnowRounds icy(int ice, int spread, int capacity) {
        SnowRounds x = Towns.oneRoute(1000, 1000, capacity);
        x.setSpread(spread);
        x.run(250, 50, 1);
        for (int left = ice; left > 0; left -= Math.min(left, 30)) {
            x.run(-10 * Math.min(left, 30) + 1, 0, 1);
        }
        Check.equal("ice is made", Towns.ground(x, 0), "0 " + (100 - ice) + " " + ice);
        return x;
    }

    private static void iceIsTaken() {
        Check.sentence(10, TAKES_ICE);
        int[] ice = {77, 77, 77, 77, 77, 100, 100, 1, 1, 0};
        int[] loads = {10, 9, 3, 1, 0, 10, 1, 9, 10, 10};
        int[] left = {0, 8, 54, 70, 77, 0, 90, 1, 0, 0};
        for (int i = 0; i < ice.length; i++) {
            SnowRounds x = icy(ice[i], 10, loads[i]);
            x.run(0, 20, 1);
            Check.equal("ice " + ice[i] + " after " + loads[i] + " of 10", x.street(0, 4), left[i]);
            Check.equal("its salt", x.value(9), loads[i]);
        }
        leastNeedTakesAll();
    }

    /** A need of 1, which is the least above 0, and a load of 0 or 1 for it. */
    private static void leastNeedTakesAll() {
        for (int load = 0; load <= 1; load++) {
            SnowRounds x = Towns.oneRoute(10, 100, load);
            x.setSpread(1);
            x.run(250, 50, 1);
            x.run(-300, 0, 1);
            x.run(0, 20, 1);
            Check.equal("ice 31 after " + load + " of 1", x.street(0, 4), load == 0 ? 31 : 0);
            Check.equal("its salt", x.value(9), load);
        }
    }

    private static void noNeedTakesNoIce() {
        SnowRounds x = icy(100, 0, 10);
        x.run(0, 20, 1);
        Check.equal("no spread takes no ice", Towns.ground(x, 0), "0 0 100");
        Check.equal("nor salt", x.value(9) + " " + x.plow(0, 2), "0 10");
        Check.equal("but the street is cleared", x.street(0, 7), 1);
    }

    private static void waitingToTheLimit() {
        Check.sentence(10, WAITS);
        SnowRounds x = Towns.oneStreet(1000, 0);
        x.setTerms(0, 20, 2, 7);
        String[] states = {"1 0 0", "2 0 0", "3 1 7", "4 2 14", "5 3 21"};
        for (int i = 0; i < states.length; i++) {
            x.run(0, 20, 1);
            Check.equal("hour " + i, x.street(0, 5) + " " + x.value(5) + " " + x.value(6), states[i]);
        }
        x.setTerms(0, 20, 2, 0);
        x.run(0, 0, 1);
        Check.equal("a credit of 0 is a complaint, too", x.value(5) + " " + x.value(6), "4 21");
        x.setTerms(0, 20, 2, 1000);
        x.run(0, 0, 1);
        Check.equal("a credit of 1000", x.value(5) + " " + x.value(6), "5 1021");
    }

    private static void waitingToTheEndsOfTheLimit() {
        SnowRounds x = Towns.oneStreet(1000, 0);
        x.setTerms(0, 1, 1, 5);
        Check.equal("limit 1, one hour", x.run(0, 1, 1), 0);
        Check.equal("limit 1, two hours", x.run(0, 1, 1), 5);
        SnowRounds y = Towns.oneStreet(1000, 0);
        y.setTerms(0, 1, 48, 5);
        Check.equal("limit 48, 48 hours", y.run(0, 1, 48), 0);
        Check.equal("limit 48, 49 hours", y.run(0, 1, 1), 5);
        SnowRounds z = Towns.oneStreet(1000, 0);
        Towns.passHundreds(z, 100, 20);
        Check.equal("2000 hours", z.street(0, 5) + " " + z.value(5) + " " + z.value(6), "2000 1997 59910");
    }

    private static void waitingOfEachPriority() {
        SnowRounds x = Towns.streetsAndPlows(0, 0, 1, 2, 2);
        int[] hours = {3, 1, 2, 1, 5, 1};
        int[] credits = {0, 30, 2 * 30, 30 + 20, 5 * (30 + 20), 30 + 20 + 2 * 10};
        for (int i = 0; i < hours.length; i++) {
            Check.equal("credits of " + hours[i] + " hours", x.run(0, 60, hours[i]), credits[i]);
        }
        Check.equal("complaints", x.terms(0, 3) + " " + x.terms(1, 3) + " " + x.terms(2, 3), "10 7 2");
    }

    private static void waitingBeginsAnew() {
        Check.sentence(10, "A street that is not due has waited for 0 hours.");
        SnowRounds x = Towns.oneStreet(1000, 0);
        x.run(0, 19, 3);
        Check.equal("due in two of three hours", x.street(0, 5), 2);
        SnowRounds y = Towns.oneStreet(1000, 0);
        y.run(0, 20, 3);
        y.run(300, 0, 1);
        Check.equal("melted", y.street(0, 5) + " " + y.value(5), "0 0");
        y.run(0, 20, 3);
        Check.equal("anew", y.street(0, 5) + " " + y.value(5), "3 0");
        y.run(0, 0, 1);
        Check.equal("too long", y.street(0, 5) + " " + y.value(5), "4 1");
        y.setTerms(0, 200, 3, 30);
        y.run(0, 0, 1);
        Check.equal("not due by other terms", y.street(0, 5) + " " + y.value(5), "0 1");
        SnowRounds z = Towns.oneRoute(100, 100, 0);
        z.run(0, 20, 1);
        Check.equal("cleared in the same hour", z.street(0, 5), 0);
        SnowRounds w = Towns.oneRoute(200, 100, 0);
        w.run(0, 20, 1);
        Check.equal("begun", w.street(0, 5), 1);
        w.run(0, 20, 1);
        Check.equal("cleared in the next hour", w.street(0, 5), 0);
    }

    private static void storeIsNeverBelowNothing() {
        Check.sentence(10, "The store has 0 to 100000 kilograms, initially 1000.");
        SnowRounds x = Towns.oneRoute(2000, 5000, 5000);
        x.setSpread(50);
        x.run(0, 20, 15);
        Check.equal("all of the first salt is used", x.value(3) + " " + x.value(9) + " " + x.plow(0, 2), "0 1000 0");
    }

    private RoundSentences() {
    }
}
