/** The sentences that promises 1 to 6 rest on: a new object, streets, plows and routes. */
final class BuildingSentences {
    private static final String AT_MOST_20 = "There are at most 20 streets, numbered from 0.";
    private static final String AT_MOST_3 = "There are at most 3 plows, numbered from 0.";
    private static final String A_STREET_HAS = "A street has a length, 10 to 2000 meters, and a priority, 0 to 2;"
            + " a depth of snow in millimeters, a wetness, 0 to 100, an ice, 0 to 100, and a number of hours for"
            + " which it has been waiting, all initially 0.";
    private static final String A_PLOW_HAS = "A plow has a speed, 100 to 5000 meters an hour, a capacity, 0 to"
            + " 5000 kilograms, a load (initially 0), and a route, a sequence of at most 12 streets, initially"
            + " empty, in which a street can stand more than once.";
    private static final String A_PLACE = "It has a place in its route, initially 0, and a progress in the street"
            + " of this place, in meters, initially 0.";
    private static final String TERMS = "Each priority has a trigger depth, 1 to 200 (initially 20, 40 and 60), a"
            + " limit, 1 to 48 hours (initially 3, 6 and 12), and a credit, 0 to 1000 (initially 30, 20 and 10).";
    private static final String STORE = "The store has 0 to 100000 kilograms, initially 1000.";
    private static final String SPREAD = "The spread is 0 to 50 grams for each meter, initially 10.";

    static void runAll() {
        Check.each(
                BuildingSentences::newContractIsEmpty, BuildingSentences::newContractHasTheFirstTerms,
                BuildingSentences::newContractHasTheFirstSalt, BuildingSentences::noneIsMinusOne,
                BuildingSentences::twentyStreets, BuildingSentences::newStreetIsClean,
                BuildingSentences::addStreetAddsOne, BuildingSentences::addStreetIsUndoable,
                BuildingSentences::lengthRange, BuildingSentences::priorityRange,
                BuildingSentences::addStreetReturnsTheNumber, BuildingSentences::addStreetRefusesRanges,
                BuildingSentences::addStreetRefusesTheNextOne, BuildingSentences::threePlows,
                BuildingSentences::newPlowIsEmpty, BuildingSentences::newPlowIsAtTheStart,
                BuildingSentences::addPlowAddsOne, BuildingSentences::addPlowIsUndoable,
                BuildingSentences::speedRange, BuildingSentences::capacityRange,
                BuildingSentences::addPlowReturnsTheNumber, BuildingSentences::addPlowRefusesRanges,
                BuildingSentences::addPlowRefusesTheNextOne, BuildingSentences::twelvePlaces,
                BuildingSentences::addStopAddsAtTheEnd, BuildingSentences::addStopWhileThePlowWorks,
                BuildingSentences::addStopIsUndoable, BuildingSentences::addStopTakesEachNumber,
                BuildingSentences::addStopReturnsThePlaces, BuildingSentences::addStopRefusesNumbers,
                BuildingSentences::addStopRefusesTheNextPlace, BuildingSentences::clearRouteMakesEmpty,
                BuildingSentences::clearRouteIsUndoable, BuildingSentences::clearRouteTakesEachPlow,
                BuildingSentences::clearRouteReturnsThePlaces, BuildingSentences::clearRouteRefusesNumbers,
                BuildingSentences::exchangeOfNeighbors, BuildingSentences::exchangeIsUndoable,
                BuildingSentences::exchangeTakesEachPlow, BuildingSentences::exchangePlaces,
                BuildingSentences::exchangeReturnsTheStreet, BuildingSentences::exchangeRefusesNumbers,
                BuildingSentences::exchangeRefusesBegunPlaces);
    }

    private static void newContractIsEmpty() {
        Check.sentence(1, "Creates a contract without streets and plows, at hour 0.");
        SnowRounds x = new SnowRounds();
        Check.equal("hour", x.value(0), 0);
        Check.equal("streets", x.value(1), 0);
        Check.equal("plows", x.value(2), 0);
        Check.equal("all values", Snapshot.values(x), " 0 0 0 1000 10 0 0 0 1000 0");
        Check.refused("street 0", x, Check.INDEX, () -> x.street(0, 0));
        Check.refused("plow 0", x, Check.INDEX, () -> x.plow(0, 0));
        Check.refused("its route", x, Check.INDEX, () -> x.stop(0, 0));
        SnowRounds other = new SnowRounds();
        x.addStreet(100, 0);
        x.addPlow(100, 0);
        x.run(0, 1, 1);
        x.append('1');
        Check.equal("an object made before", Snapshot.of(other), Snapshot.of(new SnowRounds()));
    }

    private static void newContractHasTheFirstTerms() {
        Check.sentence(1, TERMS);
        SnowRounds x = new SnowRounds();
        Check.equal("terms of 0", Snapshot.terms(x, 0), " 20 3 30 0");
        Check.equal("terms of 1", Snapshot.terms(x, 1), " 40 6 20 0");
        Check.equal("terms of 2", Snapshot.terms(x, 2), " 60 12 10 0");
    }

    private static void newContractHasTheFirstSalt() {
        Check.sentence(1, STORE);
        Check.equal("store", new SnowRounds().value(3), 1000);
        Check.sentence(1, SPREAD);
        Check.equal("spread", new SnowRounds().value(4), 10);
    }

    private static void noneIsMinusOne() {
        Check.sentence(1, "`NONE = -1`: There is no such thing.");
        Check.equal("NONE", noneOfTheClass(), -1);
    }

    /** Not SnowRounds.NONE, which javac would write into this class as the number it is now. */
    private static Object noneOfTheClass() {
        try {
            return SnowRounds.class.getField("NONE").get(null);
        } catch (ReflectiveOperationException e) {
            return e.toString();
        }
    }

    private static void twentyStreets() {
        Check.sentence(2, AT_MOST_20);
        SnowRounds x = new SnowRounds();
        for (int i = 0; i < 20; i++) {
            Check.equal("the next street", x.addStreet(10 + i, i % 3), i);
            Check.equal("streets", x.value(1), i + 1);
        }
        Check.refused("street 20", x, Check.STATE, () -> x.addStreet(10, 0));
        for (int i = 0; i < 20; i++) {
            Check.equal("length of " + i, x.street(i, 0), 10 + i);
            Check.equal("priority of " + i, x.street(i, 1), i % 3);
        }
        Check.refused("street(20, 0)", x, Check.INDEX, () -> x.street(20, 0));
    }

    private static void newStreetIsClean() {
        Check.sentence(2, A_STREET_HAS);
        SnowRounds x = Towns.oneStreet(100, 0);
        x.run(100, 100, 5);
        x.run(-300, 100, 9);
        Check.equal("a street that has been there", Snapshot.street(x, 0), " 100 0 1300 0 100 14 1 0 -1");
        Check.equal("the next one", x.addStreet(2000, 2), 1);
        Check.equal("it is clean", Snapshot.street(x, 1), " 2000 2 0 0 0 0 0 0 -1");
        for (int i = 0; i < 4; i++) {
            x.undo();
        }
        Check.equal("all is undone", x.value(1), 0);
        x.addStreet(10, 1);
        Check.equal("a street in the place of another", Snapshot.street(x, 0), " 10 1 0 0 0 0 0 0 -1");
    }

    private static void addStreetAddsOne() {
        Check.sentence(2, "Adds a street.");
        SnowRounds x = Towns.brimful();
        SnowRounds y = Towns.streetsAndPlows(1, 2);
        y.run(30, 20, 3);
        String before = Snapshot.street(y, 0) + Snapshot.plow(y, 0);
        y.addStreet(345, 1);
        Check.equal("the others", Snapshot.street(y, 0) + Snapshot.plow(y, 0), before);
        Check.equal("the new one", Snapshot.street(y, 1), " 345 1 0 0 0 0 0 0 -1");
        Check.equal("values", Snapshot.values(y), " 3 2 1 1000 10 0 0 0 1000 0");
        Check.equal("a full contract has 20", x.value(1), 20);
    }

    private static void addStreetIsUndoable() {
        Check.sentence(2, "Undoable.");
        SnowRounds x = new SnowRounds();
        Check.undoable("the first street", x, () -> x.addStreet(50, 1));
        for (int i = 0; i < 19; i++) {
            x.addStreet(50, 1);
        }
        Check.undoable("the last street", x, () -> x.addStreet(50, 1));
        Check.equal("streets", x.value(1), 19);
    }

    private static void lengthRange() {
        Check.sentence(2, "`length`: 10 to 2000");
        SnowRounds x = new SnowRounds();
        int[] fits = {10, 11, 1999, 2000};
        for (int i = 0; i < fits.length; i++) {
            Check.equal("addStreet of length " + fits[i], x.addStreet(fits[i], 0), i);
            Check.equal("its length", x.street(i, 0), fits[i]);
        }
        Check.refusedWith("length", new int[] {-10, 0, 9, 2001}, x, Check.ARGUMENT, v -> x.addStreet(v, 0));
    }

    private static void priorityRange() {
        Check.sentence(2, "`priority`: 0 to 2");
        SnowRounds x = new SnowRounds();
        for (int priority = 0; priority <= 2; priority++) {
            Check.equal("addStreet of priority " + priority, x.addStreet(10, priority), priority);
            Check.equal("its priority", x.street(priority, 1), priority);
        }
        Check.refusedWith("priority", new int[] {-1, 3}, x, Check.ARGUMENT, v -> x.addStreet(10, v));
    }

    private static void addStreetReturnsTheNumber() {
        Check.sentence(2, "Returns the number of the street.");
        SnowRounds x = new SnowRounds();
        Check.equal("the first", x.addStreet(10, 0), 0);
        Check.equal("the second", x.addStreet(10, 0), 1);
        Check.equal("the third", x.addStreet(10, 0), 2);
        x.undo();
        x.undo();
        Check.equal("after two undos", x.addStreet(10, 0), 1);
    }

    private static void addStreetRefusesRanges() {
        Check.sentence(2, "Throws `IllegalArgumentException` if length or priority is out of range");
        SnowRounds x = new SnowRounds();
        Check.refused("the length alone", x, Check.ARGUMENT, () -> x.addStreet(9, 2));
        Check.refused("the priority alone", x, Check.ARGUMENT, () -> x.addStreet(2000, 3));
        Check.refused("both", x, Check.ARGUMENT, () -> x.addStreet(2001, -1));
        Check.equal("none", x.addStreet(2000, 2), 0);
    }

    private static void addStreetRefusesTheNextOne() {
        Check.sentence(2, "Throws `IllegalStateException` if there are 20 streets");
        SnowRounds x = new SnowRounds();
        for (int i = 0; i < 19; i++) {
            x.addStreet(10, 0);
        }
        Check.equal("with 19 streets", x.addStreet(10, 0), 19);
        Check.refused("with 20 streets", x, Check.STATE, () -> x.addStreet(10, 0));
        x.undo();
        Check.equal("with 19 streets again", x.addStreet(10, 0), 19);
    }

    private static void threePlows() {
        Check.sentence(3, AT_MOST_3);
        SnowRounds x = new SnowRounds();
        for (int i = 0; i < 3; i++) {
            Check.equal("the next plow", x.addPlow(100 + i, i), i);
            Check.equal("plows", x.value(2), i + 1);
        }
        Check.refused("plow 3", x, Check.STATE, () -> x.addPlow(100, 0));
        for (int i = 0; i < 3; i++) {
            Check.equal("speed of " + i, x.plow(i, 0), 100 + i);
            Check.equal("capacity of " + i, x.plow(i, 1), i);
        }
        Check.refused("plow(3, 0)", x, Check.INDEX, () -> x.plow(3, 0));
    }

    private static void newPlowIsEmpty() {
        Check.sentence(3, A_PLOW_HAS);
        SnowRounds x = new SnowRounds();
        x.addPlow(5000, 5000);
        Check.equal("load", x.plow(0, 2), 0);
        Check.equal("places", x.plow(0, 3), 0);
        Check.refused("stop(0, 0)", x, Check.INDEX, () -> x.stop(0, 0));
    }

    private static void newPlowIsAtTheStart() {
        Check.sentence(3, A_PLACE);
        SnowRounds x = Towns.oneRoute(500, 200, 70);
        x.addStop(0, 0);
        x.run(0, 30, 1);
        Check.equal("a plow at work", Snapshot.plow(x, 0), " 200 70 70 2 0 200 0 200");
        for (int i = 0; i < 4; i++) {
            x.undo();
        }
        Check.equal("no plow", x.value(2), 0);
        x.addPlow(300, 5);
        Check.equal("a plow in the place of another", Snapshot.plow(x, 0), " 300 5 0 0 0 0 0 0");
    }

    private static void addPlowAddsOne() {
        Check.sentence(3, "Adds a plow with an empty route.");
        SnowRounds x = Towns.oneRoute(500, 200, 70);
        x.run(0, 30, 1);
        x.addPlow(600, 7);
        Check.equal("the other", Snapshot.plow(x, 0) + Snapshot.route(x, 0), " 200 70 70 1 0 200 0 200 [ 0 ]");
        Check.equal("the new one", Snapshot.plow(x, 1) + Snapshot.route(x, 1), " 600 7 0 0 0 0 0 0 [ ]");
        Check.equal("plows", x.value(2), 2);
    }

    private static void addPlowIsUndoable() {
        Check.sentence(3, "Undoable.");
        SnowRounds x = new SnowRounds();
        Check.undoable("the first plow", x, () -> x.addPlow(100, 0));
        x.addPlow(100, 0);
        x.addPlow(100, 0);
        Check.undoable("the last plow", x, () -> x.addPlow(100, 0));
        Check.equal("plows", x.value(2), 2);
    }

    private static void speedRange() {
        Check.sentence(3, "`speed`: 100 to 5000");
        for (int speed : new int[] {100, 101, 4999, 5000}) {
            SnowRounds x = new SnowRounds();
            Check.equal("addPlow of speed " + speed, x.addPlow(speed, 0), 0);
            Check.equal("its speed", x.plow(0, 0), speed);
        }
        SnowRounds x = new SnowRounds();
        Check.refusedWith("speed", new int[] {-100, 0, 99, 5001}, x, Check.ARGUMENT, v -> x.addPlow(v, 0));
    }

    private static void capacityRange() {
        Check.sentence(3, "`capacity`: 0 to 5000");
        for (int capacity : new int[] {0, 1, 4999, 5000}) {
            SnowRounds x = new SnowRounds();
            Check.equal("addPlow of capacity " + capacity, x.addPlow(100, capacity), 0);
            Check.equal("its capacity", x.plow(0, 1), capacity);
        }
        SnowRounds x = new SnowRounds();
        Check.refusedWith("capacity", new int[] {-1, 5001}, x, Check.ARGUMENT, v -> x.addPlow(100, v));
    }

    private static void addPlowReturnsTheNumber() {
        Check.sentence(3, "Returns the number of the plow.");
        SnowRounds x = new SnowRounds();
        Check.equal("the first", x.addPlow(100, 0), 0);
        Check.equal("the second", x.addPlow(100, 0), 1);
        Check.equal("the third", x.addPlow(100, 0), 2);
        x.undo();
        x.undo();
        Check.equal("after two undos", x.addPlow(100, 0), 1);
    }

    private static void addPlowRefusesRanges() {
        Check.sentence(3, "Throws `IllegalArgumentException` if speed or capacity is out of range");
        SnowRounds x = new SnowRounds();
        Check.refused("the speed alone", x, Check.ARGUMENT, () -> x.addPlow(5001, 0));
        Check.refused("the capacity alone", x, Check.ARGUMENT, () -> x.addPlow(5000, 5001));
        Check.refused("both", x, Check.ARGUMENT, () -> x.addPlow(99, -1));
        Check.equal("none", x.addPlow(5000, 5000), 0);
    }

    private static void addPlowRefusesTheNextOne() {
        Check.sentence(3, "Throws `IllegalStateException` if there are 3 plows");
        SnowRounds x = Towns.streetsAndPlows(2);
        Check.equal("with 2 plows", x.addPlow(100, 0), 2);
        Check.refused("with 3 plows", x, Check.STATE, () -> x.addPlow(100, 0));
        x.undo();
        Check.equal("with 2 plows again", x.addPlow(100, 0), 2);
    }

    private static void twelvePlaces() {
        Check.sentence(4, A_PLOW_HAS);
        SnowRounds x = Towns.streetsAndPlows(1, 0);
        for (int i = 1; i <= 12; i++) {
            Check.equal("the same street once more", x.addStop(0, 0), i);
        }
        Check.equal("the route", Snapshot.route(x, 0), " [ 0 0 0 0 0 0 0 0 0 0 0 0 ]");
        Check.refused("place 12", x, Check.STATE, () -> x.addStop(0, 0));
    }

    private static void addStopAddsAtTheEnd() {
        Check.sentence(4, "Adds a street at the end of a route.");
        SnowRounds x = Towns.streetsAndPlows(2, 0, 1, 2);
        x.addStop(0, 2);
        x.addStop(1, 1);
        x.addStop(0, 0);
        x.addStop(0, 2);
        Check.equal("route 0", Snapshot.route(x, 0), " [ 2 0 2 ]");
        Check.equal("route 1", Snapshot.route(x, 1), " [ 1 ]");
        for (int i = 3; i < 12; i++) {
            x.addStop(0, i % 2);
        }
        Check.equal("the full route", Snapshot.route(x, 0), " [ 2 0 2 1 0 1 0 1 0 1 0 1 ]");
        x.clearRoute(0);
        x.addStop(0, 1);
        Check.equal("after clearRoute", Snapshot.route(x, 0), " [ 1 ]");
    }

    private static void addStopWhileThePlowWorks() {
        SnowRounds x = Towns.oneRoute(100, 150, 0);
        x.addStop(0, 0);
        x.addStop(0, x.addStreet(300, 0));
        x.run(0, 20, 1);
        Check.equal("the plow works at its last place", Towns.way(x, 0), "2 50 0 150");
        x.addStop(0, 0);
        Check.equal("it stays there", Towns.way(x, 0), "2 50 0 150");
        x.run(0, 0, 1);
        x.run(0, 0, 1);
        Check.equal("it goes on to the new place", Towns.way(x, 0), "0 0 1 400");
        SnowRounds y = Towns.oneRoute(100, 100, 0);
        y.addStop(0, 0);
        y.run(0, 20, 1);
        Check.equal("the plow is before its last place", Towns.way(y, 0), "1 0 0 100");
        y.addStop(0, y.addStreet(100, 0));
        y.run(0, 20, 1);
        Check.equal("that is not its last place any more", Towns.way(y, 0), "2 0 0 200");
    }

    private static void addStopIsUndoable() {
        Check.sentence(4, "Undoable.");
        SnowRounds x = Towns.streetsAndPlows(1, 0, 1);
        Check.undoable("the first place", x, () -> x.addStop(0, 1));
        for (int i = 0; i < 11; i++) {
            x.addStop(0, 0);
        }
        Check.undoable("the last place", x, () -> x.addStop(0, 1));
        Check.equal("places", x.plow(0, 3), 11);
        x.addStop(0, 1);
        Check.equal("the last place again", x.stop(0, 11), 1);
    }

    private static void addStopTakesEachNumber() {
        SnowRounds x = Towns.streetsAndPlows(2, 0, 1, 2);
        Check.sentence(4, "`plow`: number of a plow");
        Check.equal("plow 0", x.addStop(0, 0), 1);
        Check.equal("plow 1", x.addStop(1, 0), 1);
        Check.refusedWith("plow", new int[] {-1, 2, 3}, x, Check.INDEX, v -> x.addStop(v, 0));
        Check.sentence(4, "`street`: number of a street");
        Check.equal("street 0", x.addStop(0, 0), 2);
        Check.equal("street 2", x.addStop(0, 2), 3);
        Check.refusedWith("street", new int[] {-1, 3, 19, 20}, x, Check.INDEX, v -> x.addStop(0, v));
        SnowRounds y = Towns.brimful();
        Check.equal("street 19", y.addStop(2, 19), 1);
        Check.refusedWith("street", new int[] {20, 21}, y, Check.INDEX, v -> y.addStop(2, v));
    }

    private static void addStopReturnsThePlaces() {
        Check.sentence(4, "Returns the number of places of the route.");
        SnowRounds x = Towns.streetsAndPlows(2, 0, 1);
        for (int i = 1; i <= 12; i++) {
            Check.equal("places of route 0", x.addStop(0, i % 2), i);
        }
        Check.equal("places of route 1", x.addStop(1, 1), 1);
        x.undo();
        x.undo();
        Check.equal("places of route 0 after two undos", x.addStop(0, 0), 12);
    }

    private static void addStopRefusesNumbers() {
        Check.sentence(4, "Throws `IndexOutOfBoundsException` if there is no such plow or street");
        SnowRounds x = new SnowRounds();
        Check.refused("no plow, no street", x, Check.INDEX, () -> x.addStop(0, 0));
        x.addStreet(10, 0);
        Check.refused("no plow", x, Check.INDEX, () -> x.addStop(0, 0));
        x.undo();
        x.addPlow(100, 0);
        Check.refused("no street", x, Check.INDEX, () -> x.addStop(0, 0));
        x.addStreet(10, 0);
        x.addStreet(10, 0);
        x.undo();
        Check.refused("a street that is undone", x, Check.INDEX, () -> x.addStop(0, 1));
        Check.equal("the street that is there", x.addStop(0, 0), 1);
    }

    private static void addStopRefusesTheNextPlace() {
        Check.sentence(4, "Throws `IllegalStateException` if the route has 12 places");
        SnowRounds x = Towns.streetsAndPlows(2, 0);
        for (int i = 0; i < 11; i++) {
            x.addStop(0, 0);
        }
        Check.equal("with 11 places", x.addStop(0, 0), 12);
        Check.refused("with 12 places", x, Check.STATE, () -> x.addStop(0, 0));
        Check.equal("the other route", x.addStop(1, 0), 1);
        x.clearRoute(0);
        Check.equal("the route when it is empty", x.addStop(0, 0), 1);
    }

    private static void clearRouteMakesEmpty() {
        Check.sentence(5, "Makes a route empty; its plow has the place 0 and the progress 0 then.");
        SnowRounds x = Towns.oneRoute(100, 250, 20);
        x.addPlow(100, 0);
        x.addStop(0, x.addStreet(300, 0));
        x.addStop(1, 1);
        x.run(0, 60, 1);
        Check.equal("the plow at work", Snapshot.plow(x, 0), " 250 20 19 2 1 150 0 250");
        x.clearRoute(0);
        Check.equal("the plow then", Snapshot.plow(x, 0), " 250 20 19 0 0 0 0 250");
        Check.refused("stop(0, 0)", x, Check.INDEX, () -> x.stop(0, 0));
        Check.equal("the other plow", Snapshot.plow(x, 1) + Snapshot.route(x, 1), " 100 0 0 1 0 100 0 100 [ 1 ]");
        x.addStop(0, 1);
        x.run(0, 0, 1);
        Check.equal("it begins anew", Snapshot.plow(x, 0), " 250 20 20 1 0 250 0 500");
        SnowRounds y = Towns.lane(100, 100, 100);
        y.run(0, 20, 1);
        Check.equal("place 1, not begun", Towns.way(y, 0), "1 0 0 100");
        y.clearRoute(0);
        Check.equal("place 0", Towns.way(y, 0), "0 0 0 100");
    }

    private static void clearRouteIsUndoable() {
        Check.sentence(5, "Undoable.");
        SnowRounds x = Towns.brimful();
        Check.undoable("of a full route", x, () -> x.clearRoute(0));
        Check.undoable("of a route with the plow at its end", x, () -> x.clearRoute(1));
        Check.undoable("of an empty route", x, () -> x.clearRoute(2));
    }

    private static void clearRouteTakesEachPlow() {
        Check.sentence(5, "`plow`: number of a plow");
        SnowRounds x = Towns.brimful();
        Check.equal("plow 2", x.clearRoute(2), 0);
        Check.equal("plow 1", x.clearRoute(1), 3);
        Check.equal("plow 0", x.clearRoute(0), 12);
        Check.refusedWith("plow", new int[] {-1, 3, 4}, x, Check.INDEX, v -> x.clearRoute(v));
    }

    private static void clearRouteReturnsThePlaces() {
        Check.sentence(5, "Returns the number of places that the route had.");
        SnowRounds x = Towns.streetsAndPlows(1, 0);
        Check.equal("no place", x.clearRoute(0), 0);
        x.addStop(0, 0);
        Check.equal("one place", x.clearRoute(0), 1);
        Check.equal("no place again", x.clearRoute(0), 0);
        for (int i = 0; i < 12; i++) {
            x.addStop(0, 0);
        }
        Check.equal("12 places", x.clearRoute(0), 12);
    }

    private static void clearRouteRefusesNumbers() {
        Check.sentence(5, "Throws `IndexOutOfBoundsException` if there is no such plow");
        SnowRounds x = new SnowRounds();
        Check.refused("no plow", x, Check.INDEX, () -> x.clearRoute(0));
        x.addPlow(100, 0);
        Check.refusedWith("one plow, number", new int[] {-1, 1, 2}, x, Check.INDEX, v -> x.clearRoute(v));
        Check.equal("the plow that is there", x.clearRoute(0), 0);
    }

    private static SnowRounds routeOf(int places) {
        SnowRounds x = new SnowRounds();
        x.addPlow(100, 0);
        for (int i = 0; i < places; i++) {
            x.addStop(0, x.addStreet(100, 0));
        }
        return x;
    }

    private static void exchangeOfNeighbors() {
        Check.sentence(6, "Exchanges two neighboring places of a route.");
        SnowRounds x = routeOf(4);
        x.exchange(0, 1);
        Check.equal("places 1 and 2", Snapshot.route(x, 0), " [ 0 2 1 3 ]");
        x.exchange(0, 0);
        Check.equal("places 0 and 1", Snapshot.route(x, 0), " [ 2 0 1 3 ]");
        x.exchange(0, 2);
        Check.equal("places 2 and 3", Snapshot.route(x, 0), " [ 2 0 3 1 ]");
        x.addStop(0, 1);
        x.exchange(0, 3);
        Check.equal("equal places", Snapshot.route(x, 0), " [ 2 0 3 1 1 ]");
    }

    private static void exchangeIsUndoable() {
        Check.sentence(6, "Undoable.");
        SnowRounds x = routeOf(12);
        Check.undoable("of the first places", x, () -> x.exchange(0, 0));
        Check.undoable("of the last places", x, () -> x.exchange(0, 10));
        SnowRounds y = Towns.streetsAndPlows(1, 0);
        y.addStop(0, 0);
        y.addStop(0, 0);
        Check.undoable("of equal places", y, () -> y.exchange(0, 0));
    }

    private static void exchangeTakesEachPlow() {
        Check.sentence(6, "`plow`: number of a plow");
        SnowRounds x = routeOf(2);
        x.addPlow(100, 0);
        x.addStop(1, 1);
        x.addStop(1, 0);
        Check.equal("plow 1", x.exchange(1, 0), 0);
        Check.equal("route 0 is as it was", Snapshot.route(x, 0), " [ 0 1 ]");
        Check.equal("plow 0", x.exchange(0, 0), 1);
        Check.refusedWith("plow", new int[] {-1, 2, 3}, x, Check.INDEX, v -> x.exchange(v, 0));
    }

    /** The largest int counts too: the place behind it is no place, though its number wraps. */
    private static void exchangePlaces() {
        Check.sentence(6, "`place`: 0 to (number of places) - 2: this place and the next one");
        SnowRounds full = routeOf(12);
        Check.equal("0 of 12", full.exchange(0, 0), 1);
        Check.equal("10 of 12", full.exchange(0, 10), 11);
        Check.equal("the route", Snapshot.route(full, 0), " [ 1 0 2 3 4 5 6 7 8 9 11 10 ]");
        Check.refusedWith("of 12 places", new int[] {-2, -1, 11, 12}, full, Check.INDEX, v -> full.exchange(0, v));
        SnowRounds two = routeOf(2);
        Check.refusedWith("of 2 places", new int[] {-1, 1, 2}, two, Check.INDEX, v -> two.exchange(0, v));
        Check.equal("0 of 2", two.exchange(0, 0), 1);
        SnowRounds one = routeOf(1);
        Check.refusedWith("of 1 place", new int[] {-1, 0, 1}, one, Check.INDEX, v -> one.exchange(0, v));
        SnowRounds none = routeOf(0);
        Check.refusedWith("of no places", new int[] {-2, -1, 0, 1}, none, Check.INDEX, v -> none.exchange(0, v));
    }

    private static void exchangeReturnsTheStreet() {
        Check.sentence(6, "Returns the street that stands at the place then.");
        SnowRounds x = routeOf(3);
        Check.equal("the street of place 1", x.exchange(0, 0), 1);
        Check.equal("the same", x.stop(0, 0), 1);
        Check.equal("the street of place 2", x.exchange(0, 1), 2);
        Check.equal("the same", x.stop(0, 1), 2);
    }

    private static void exchangeRefusesNumbers() {
        Check.sentence(6, "Throws `IndexOutOfBoundsException` if there is no such plow or place");
        SnowRounds x = new SnowRounds();
        Check.refused("no plow", x, Check.INDEX, () -> x.exchange(0, 0));
        SnowRounds y = routeOf(2);
        y.addStop(0, 0);
        y.undo();
        Check.refused("a place that is undone", y, Check.INDEX, () -> y.exchange(0, 1));
        y.clearRoute(0);
        Check.refused("a place of the cleared route", y, Check.INDEX, () -> y.exchange(0, 0));
    }

    private static void exchangeRefusesBegunPlaces() {
        Check.sentence(6, "Throws `IllegalStateException` if the plow has a progress above 0 at one of both places");
        SnowRounds first = Towns.lane(100, 101, 100, 100);
        first.run(0, 20, 1);
        Check.equal("100 meters at place 0", Towns.way(first, 0), "0 100 0 100");
        Check.refused("exchange(0, 0)", first, Check.STATE, () -> first.exchange(0, 0));
        Check.equal("exchange(0, 1)", first.exchange(0, 1), 2);
        SnowRounds x = Towns.lane(100, 99, 100, 100, 100, 100);
        x.exchange(0, 0);
        x.exchange(0, 1);
        x.run(0, 20, 2);
        Check.equal("place 2, not begun", Towns.way(x, 0), "2 0 0 200");
        x.exchange(0, 1);
        Check.equal("a place that is not begun can go", x.exchange(0, 2), 3);
        Check.equal("the plow stays", Towns.way(x, 0), "2 0 0 200");
        SnowRounds y = Towns.lane(100, 99, 100, 100, 100);
        y.run(0, 20, 1);
        Check.equal("one meter at place 1", Towns.way(y, 0), "1 1 0 100");
        Check.refused("exchange(0, 0)", y, Check.STATE, () -> y.exchange(0, 0));
        Check.refused("exchange(0, 1)", y, Check.STATE, () -> y.exchange(0, 1));
        Check.equal("exchange(0, 2)", y.exchange(0, 2), 3);
        SnowRounds last = Towns.brimful();
        Check.equal("the last place is begun", Towns.way(last, 1).substring(0, 5), "2 200");
        Check.equal("the places before it", last.exchange(1, 0), 3);
        Check.refused("it and the one before", last, Check.STATE, () -> last.exchange(1, 1));
        Check.equal("the begun place of another plow", last.exchange(0, 2), 3);
    }

    private BuildingSentences() {
    }
}
