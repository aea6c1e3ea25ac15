/** The sentences that promises 11 to 16 rest on: the methods that only read. */
final class ReadingSentences {
    static void runAll() {
        Check.each(
                ReadingSentences::valueReturnsANumber, ReadingSentences::valueNumbers, ReadingSentences::valueRange,
                ReadingSentences::streetReturnsSomething, ReadingSentences::streetTakesEachNumber,
                ReadingSentences::streetNumbers, ReadingSentences::streetRefusesNumbers,
                ReadingSentences::streetRange, ReadingSentences::dueIsToldAtOnce,
                ReadingSentences::plowReturnsSomething, ReadingSentences::plowTakesEachNumber,
                ReadingSentences::plowNumbers, ReadingSentences::plowRefusesNumbers, ReadingSentences::plowRange,
                ReadingSentences::stopReturnsTheStreet, ReadingSentences::stopTakesEachNumber,
                ReadingSentences::stopPlaces, ReadingSentences::stopRefusesNumbers,
                ReadingSentences::termsReturnsSomething, ReadingSentences::termsPriority,
                ReadingSentences::termsNumbers, ReadingSentences::termsRefusesNumbers, ReadingSentences::termsRange,
                ReadingSentences::meanDepthIsByLengths, ReadingSentences::meanDepthIsADivision,
                ReadingSentences::meanDepthWithoutStreets, ReadingSentences::meanDepthOfTheDeepestSnow);
    }

    /**
     * Two streets, two plows; 12 hours have passed. Plow 0 clears street 0 in hours 1, 4, 7 and 10
     * with 8 kilograms each time; plow 1 works on street 1 from hour 1 to hour 10 without salt, and
     * three complaints come about it.
     */
    private static SnowRounds busy() {
        SnowRounds x = new SnowRounds();
        x.addStreet(400, 0);
        x.addStreet(1000, 1);
        x.addPlow(300, 12);
        x.addPlow(100, 0);
        x.addStop(0, 0);
        x.addStop(0, 0);
        x.addStop(1, 1);
        x.deliver(500);
        x.setSpread(20);
        x.run(50, 45, 1);
        x.run(-35, 10, 11);
        return x;
    }

    private static void valueReturnsANumber() {
        Check.sentence(11, "Returns a number.");
        SnowRounds x = busy();
        Check.changesNothing("value", x, () -> x.value(7));
        Check.equal("twice", x.value(9), x.value(9));
        Check.sentence(11, "Returns that number.");
        Check.equal("the numbers of a new contract", Snapshot.values(new SnowRounds()), " 0 0 0 1000 10 0 0 0 1000 0");
    }

    private static void valueNumbers() {
        Check.sentence(11, "`what`: 0 the hours, 1 the streets, 2 the plows, 3 what the store has, 4 the spread, 5 the"
                + " complaints, 6 the credits that were paid, 7 the streets that are due, 8 the salt that was"
                + " delivered (with the first 1000 kilograms), 9 the salt that was used");
        int[] want = {12, 2, 2, 1456, 20, 3, 60, 0, 1500, 32};
        SnowRounds x = busy();
        for (int what = 0; what < want.length; what++) {
            Check.equal("value(" + what + ")", x.value(what), want[what]);
        }
        Check.equal("no salt is lost", x.value(3) + x.plow(0, 2) + x.plow(1, 2) + x.value(9), x.value(8));
        SnowRounds full = Towns.brimful();
        Check.equal("hours at their end", full.value(0), 2000);
        Check.equal("20 streets", full.value(1), 20);
        Check.equal("3 plows", full.value(2), 3);
        Check.equal("a full store", full.value(3), 100000);
        Check.equal("the spread", full.value(4), 13);
        Check.equal("all but street 3 are due", full.value(7), 19);
        Check.equal("all salt of it", full.value(8),
                full.value(3) + full.value(9) + full.plow(0, 2) + full.plow(1, 2));
    }

    private static void valueRange() {
        Check.sentence(11, "Throws `IllegalArgumentException` if what is out of range");
        SnowRounds x = busy();
        Check.refusedWith("value", new int[] {-1, 10, 11}, x, Check.ARGUMENT, v -> x.value(v));
        Check.equal("value(0)", x.value(0), 12);
        Check.equal("value(9)", x.value(9), 32);
    }

    private static void streetReturnsSomething() {
        Check.sentence(12, "Returns something about a street.");
        SnowRounds x = busy();
        Check.changesNothing("street", x, () -> x.street(1, 8));
        Check.sentence(12, "Returns that value.");
        Check.equal("street 0", Snapshot.street(x, 0), " 400 0 10 0 0 0 0 4 10");
        Check.equal("street 1", Snapshot.street(x, 1), " 1000 1 10 0 20 0 0 1 10");
    }

    private static void streetTakesEachNumber() {
        Check.sentence(12, "`street`: number of a street");
        SnowRounds x = Towns.brimful();
        Check.equal("street 0", x.street(0, 0), 2000);
        for (int i = 1; i < 20; i++) {
            Check.equal("street " + i, x.street(i, 0), 50 * (i + 1));
        }
        Check.refusedWith("street", new int[] {-1, 20}, x, Check.INDEX, v -> x.street(v, 0));
    }

    private static void streetNumbers() {
        Check.sentence(12, "`what`: 0 its length, 1 its priority, 2 its depth, 3 its wetness, 4 its ice, 5 the hours"
                + " for which it has been waiting, 6 1 if it is due, otherwise 0, 7 how often it was cleared, 8 the"
                + " hour in which it was cleared last (0 for the first hour; NONE if it was never cleared)");
        SnowRounds x = Towns.oneRoute(210, 100, 0);
        x.setTerms(0, 20, 48, 30);
        Check.equal("never cleared", x.street(0, 8), SnowRounds.NONE);
        int[] hours = {1, 1, 1, 1, 2, 3, 1};
        String[] told = {" 210 0 35 10 0 1 1 0 -1", " 210 0 70 20 0 2 1 0 -1", " 210 0 0 30 0 0 0 1 2",
            " 210 0 35 40 0 1 1 1 2", " 210 0 0 60 0 0 0 2 5", " 210 0 0 90 0 0 0 3 8", " 210 0 35 100 0 1 1 3 8"};
        for (int i = 0; i < hours.length; i++) {
            x.run(25, 40, hours[i]);
            Check.equal("what " + i, Snapshot.street(x, 0), told[i]);
        }
        SnowRounds y = Towns.oneRoute(10, 100, 0);
        y.run(0, 20, 1);
        Check.equal("cleared in the first hour", Snapshot.street(y, 0), " 10 0 0 0 0 0 0 1 0");
        y.undo();
        Check.equal("never cleared, after undo", y.street(0, 8), SnowRounds.NONE);
    }

    private static void streetRefusesNumbers() {
        Check.sentence(12, "Throws `IndexOutOfBoundsException` if there is no such street");
        SnowRounds none = new SnowRounds();
        Check.refusedWith("of no streets", new int[] {-1, 0, 1}, none, Check.INDEX, v -> none.street(v, 0));
        SnowRounds two = busy();
        Check.refusedWith("of two streets", new int[] {-1, 2, 3, 20}, two, Check.INDEX, v -> two.street(v, 0));
        SnowRounds x = Towns.oneStreet(10, 0);
        x.undo();
        Check.refused("a street that is undone", x, Check.INDEX, () -> x.street(0, 0));
    }

    private static void streetRange() {
        Check.sentence(12, "Throws `IllegalArgumentException` if what is out of range");
        SnowRounds x = busy();
        Check.refusedWith("what", new int[] {-1, 9, 10}, x, Check.ARGUMENT, v -> x.street(1, v));
        Check.equal("what 0", x.street(1, 0), 1000);
        Check.equal("what 8", x.street(1, 8), 10);
    }

    private static void dueIsToldAtOnce() {
        String due = "A street is due if its depth is at least the trigger depth of its priority.";
        SnowRounds x = Towns.streetsAndPlows(0, 0, 1);
        x.run(0, 39, 1);
        int[] triggers = {38, 39, 40};
        int[] want = {1, 1, 0};
        for (int i = 0; i < triggers.length; i++) {
            x.setTerms(0, triggers[i], 1, 1);
            Check.sentence(12, due);
            Check.equal("39 of " + triggers[i] + " mm", x.street(0, 6), want[i]);
            Check.equal("39 of 40 mm", x.street(1, 6), 0);
            Check.sentence(11, due);
            Check.equal("streets with 39 of " + triggers[i] + " mm", x.value(7), want[i]);
        }
        x.undo();
        Check.equal("after undo", x.value(7), 1);
    }

    private static void plowReturnsSomething() {
        Check.sentence(13, "Returns something about a plow.");
        SnowRounds x = busy();
        Check.changesNothing("plow", x, () -> x.plow(1, 7));
        Check.sentence(13, "Returns that value.");
        Check.equal("plow 0", Snapshot.plow(x, 0), " 300 12 12 2 0 0 8 1600");
        Check.equal("plow 1", Snapshot.plow(x, 1), " 100 0 0 1 0 0 3 1000");
    }

    private static void plowTakesEachNumber() {
        Check.sentence(13, "`plow`: number of a plow");
        SnowRounds x = Towns.brimful();
        for (int i = 0; i < 3; i++) {
            Check.equal("plow " + i, x.plow(i, 0), 300 + 100 * i);
        }
        Check.refusedWith("plow", new int[] {-1, 3}, x, Check.INDEX, v -> x.plow(v, 0));
    }

    private static void plowNumbers() {
        Check.sentence(13, "`what`: 0 its speed, 1 its capacity, 2 its load, 3 the places of its route, 4 its place, 5"
                + " its progress, 6 its rounds, 7 the meters that it has used since the beginning");
        SnowRounds x = Towns.oneRoute(30, 100, 1);
        x.addStop(0, x.addStreet(150, 0));
        x.run(0, 0, 2);
        Check.equal("two rounds without a meter", Snapshot.plow(x, 0), " 100 1 1 2 0 0 2 0");
        x.run(0, 20, 1);
        Check.equal("at place 1", Snapshot.plow(x, 0), " 100 1 0 2 1 70 2 100");
        x.run(0, 0, 1);
        Check.equal("a third round", Snapshot.plow(x, 0), " 100 1 0 2 0 0 3 180");
        SnowRounds full = Towns.brimful();
        Check.equal("a full route", full.plow(0, 3), 12);
        SnowRounds far = Towns.oneRoute(2000, 5000, 0);
        Towns.passHundreds(far, 20, 20);
        Check.equal("2000 rounds", Snapshot.plow(far, 0), " 5000 0 0 1 0 0 2000 4000000");
    }

    private static void plowRefusesNumbers() {
        Check.sentence(13, "Throws `IndexOutOfBoundsException` if there is no such plow");
        SnowRounds none = new SnowRounds();
        Check.refusedWith("of no plows", new int[] {-1, 0, 1}, none, Check.INDEX, v -> none.plow(v, 0));
        SnowRounds two = busy();
        Check.refusedWith("of two plows", new int[] {-1, 2, 3}, two, Check.INDEX, v -> two.plow(v, 0));
        SnowRounds x = new SnowRounds();
        x.addPlow(100, 0);
        x.undo();
        Check.refused("a plow that is undone", x, Check.INDEX, () -> x.plow(0, 0));
    }

    private static void plowRange() {
        Check.sentence(13, "Throws `IllegalArgumentException` if what is out of range");
        SnowRounds x = busy();
        Check.refusedWith("what", new int[] {-1, 8, 9}, x, Check.ARGUMENT, v -> x.plow(1, v));
        Check.equal("what 0", x.plow(1, 0), 100);
        Check.equal("what 7", x.plow(1, 7), 1000);
    }

    private static void stopReturnsTheStreet() {
        Check.sentence(14, "Returns the street at a place of a route.");
        SnowRounds x = busy();
        Check.changesNothing("stop", x, () -> x.stop(0, 1));
        Check.sentence(14, "Returns the street.");
        SnowRounds y = Towns.streetsAndPlows(1, 0, 0, 0);
        y.addStop(0, 2);
        y.addStop(0, 0);
        y.addStop(0, 2);
        Check.equal("places", y.stop(0, 0) + " " + y.stop(0, 1) + " " + y.stop(0, 2), "2 0 2");
        y.exchange(0, 1);
        Check.equal("after exchange", y.stop(0, 0) + " " + y.stop(0, 1) + " " + y.stop(0, 2), "2 2 0");
        y.undo();
        Check.equal("after undo", y.stop(0, 0) + " " + y.stop(0, 1) + " " + y.stop(0, 2), "2 0 2");
    }

    private static void stopTakesEachNumber() {
        Check.sentence(14, "`plow`: number of a plow");
        SnowRounds x = Towns.streetsAndPlows(3, 0, 0, 0);
        for (int i = 0; i < 3; i++) {
            x.addStop(i, 2 - i);
        }
        for (int i = 0; i < 3; i++) {
            Check.equal("plow " + i, x.stop(i, 0), 2 - i);
        }
        Check.refusedWith("plow", new int[] {-1, 3}, x, Check.INDEX, v -> x.stop(v, 0));
    }

    private static void stopPlaces() {
        Check.sentence(14, "`place`: a place, from 0");
        SnowRounds x = Towns.brimful();
        for (int i = 0; i < 12; i++) {
            Check.equal("place " + i + " of 12", x.stop(0, i), i);
        }
        Check.refusedWith("of 12 places", new int[] {-1, 12, 13}, x, Check.INDEX, v -> x.stop(0, v));
        Check.equal("place 2 of 3", x.stop(1, 2), 12);
        Check.refusedWith("of 3 places", new int[] {-1, 3, 11}, x, Check.INDEX, v -> x.stop(1, v));
        Check.refusedWith("of no places", new int[] {-1, 0, 1}, x, Check.INDEX, v -> x.stop(2, v));
    }

    private static void stopRefusesNumbers() {
        Check.sentence(14, "Throws `IndexOutOfBoundsException` if there is no such plow or place");
        SnowRounds none = new SnowRounds();
        Check.refused("no plow", none, Check.INDEX, () -> none.stop(0, 0));
        SnowRounds x = Towns.streetsAndPlows(1, 0);
        x.addStop(0, 0);
        Check.refused("another plow", x, Check.INDEX, () -> x.stop(1, 0));
        Check.refused("another place", x, Check.INDEX, () -> x.stop(0, 1));
        x.clearRoute(0);
        Check.refused("a place of the cleared route", x, Check.INDEX, () -> x.stop(0, 0));
        x.undo();
        Check.equal("the place is there again", x.stop(0, 0), 0);
        x.undo();
        Check.refused("a place that is undone", x, Check.INDEX, () -> x.stop(0, 0));
    }

    private static void termsReturnsSomething() {
        Check.sentence(15, "Returns something about the terms of a priority.");
        SnowRounds x = busy();
        Check.changesNothing("terms", x, () -> x.terms(1, 3));
        Check.sentence(15, "Returns that value.");
        Check.equal("terms of 1", Snapshot.terms(x, 1), " 40 6 20 3");
    }

    private static void termsPriority() {
        Check.sentence(15, "`priority`: 0 to 2");
        SnowRounds x = new SnowRounds();
        Check.equal("0", x.terms(0, 0), 20);
        Check.equal("1", x.terms(1, 0), 40);
        Check.equal("2", x.terms(2, 0), 60);
        Check.refusedWith("priority", new int[] {-1, 3}, x, Check.INDEX, v -> x.terms(v, 0));
    }

    private static void termsNumbers() {
        Check.sentence(15, "`what`: 0 its trigger depth, 1 its limit, 2 its credit, 3 the complaints about its streets");
        SnowRounds x = Towns.streetsAndPlows(0, 0, 2, 2);
        x.setTerms(0, 200, 48, 1000);
        x.setTerms(2, 1, 1, 0);
        x.run(0, 50, 4);
        Check.equal("terms of 0", Snapshot.terms(x, 0), " 200 48 1000 0");
        Check.equal("terms of 1, which has no street", Snapshot.terms(x, 1), " 40 6 20 0");
        Check.equal("terms of 2, two streets", Snapshot.terms(x, 2), " 1 1 0 6");
        Check.equal("all complaints", x.value(5), 6);
    }

    private static void termsRefusesNumbers() {
        Check.sentence(15, "Throws `IndexOutOfBoundsException` if there is no such priority");
        SnowRounds x = busy();
        for (int what = 0; what <= 3; what++) {
            int w = what;
            Check.refusedWith("what " + w + " of", new int[] {-1, 3, 4}, x, Check.INDEX, v -> x.terms(v, w));
        }
    }

    private static void termsRange() {
        Check.sentence(15, "Throws `IllegalArgumentException` if what is out of range");
        SnowRounds x = busy();
        for (int priority = 0; priority <= 2; priority++) {
            int p = priority;
            Check.refusedWith("of " + p + " what", new int[] {-1, 4, 5}, x, Check.ARGUMENT, v -> x.terms(p, v));
        }
    }

    private static void meanDepthIsByLengths() {
        Check.sentence(16, "Returns the mean depth of the streets, by their lengths.");
        SnowRounds x = Towns.oneRoute(100, 100, 0);
        x.addStreet(300, 2);
        Check.equal("no snow", x.meanDepth(), 0.0);
        x.run(0, 25, 1);
        Check.equal("25 mm on 300 of 400 meters", x.meanDepth(), 18.75);
        Check.changesNothing("meanDepth", x, () -> x.meanDepth());
    }

    private static void meanDepthIsADivision() {
        Check.sentence(16, "Returns the sum of depth * length, converted to double, divided by the sum of the lengths,"
                + " converted to double; 0.0 without streets.");
        SnowRounds x = Towns.oneStreet(11, 0);
        x.run(0, 1, 1);
        x.addStreet(10, 0);
        Check.equal("11 by 21", x.meanDepth(), 11.0 / 21.0);
        x.addStreet(2000, 0);
        x.run(0, 3, 1);
        Check.equal("(11 * 4 + 2010 * 3) by 2021", x.meanDepth(), 6074.0 / 2021.0);
    }

    private static void meanDepthWithoutStreets() {
        SnowRounds x = new SnowRounds();
        Check.equal("no streets", x.meanDepth(), 0.0);
        x.run(0, 100, 100);
        Check.equal("no streets in the snow", x.meanDepth(), 0.0);
        x.addStreet(10, 0);
        x.undo();
        Check.equal("no street any more", x.meanDepth(), 0.0);
    }

    /** The sum of depth * length is then 7999800000, which no int holds. */
    private static void meanDepthOfTheDeepestSnow() {
        SnowRounds x = new SnowRounds();
        for (int i = 0; i < 20; i++) {
            x.addStreet(i == 0 ? 1999 : 2000, 0);
        }
        Towns.passHundreds(x, 100, 20);
        Check.equal("the deepest snow", x.meanDepth(), 200000.0);
        SnowRounds y = new SnowRounds();
        for (int i = 0; i < 20; i++) {
            y.addStreet(2000, 0);
        }
        Towns.passHundreds(y, 100, 5);
        y.run(0, 100, 36);
        Check.equal("the last hour with an int", y.meanDepth(), 53600.0);
        y.run(0, 100, 1);
        Check.equal("the first hour with more", y.meanDepth(), 53700.0);
    }

    private ReadingSentences() {
    }
}
