/** Promises 1 to 9: a new object, and what builds and changes a contract. */
final class BuildingTests {
    private static final Class<IllegalArgumentException> ARGUMENT = IllegalArgumentException.class;
    private static final Class<IllegalStateException> STATE = IllegalStateException.class;
    private static final Class<IndexOutOfBoundsException> INDEX = IndexOutOfBoundsException.class;
    private static final int[] FAR_OUT = {Integer.MIN_VALUE, Integer.MAX_VALUE};

    static void runAll() {
        newObject();
        addStreet();
        addStreetRefuses();
        addPlow();
        addPlowRefuses();
        addStop();
        addStopRefuses();
        clearRoute();
        exchange();
        exchangeRefuses();
        setTerms();
        setTermsRefuses();
        setSpread();
        deliver();
        deliverRefuses();
    }

    private static void newObject() {
        Check.promise(1);
        SnowRounds x = new SnowRounds();
        Check.equal("NONE", SnowRounds.NONE, -1);
        Check.equal("values", Snapshot.values(x), " 0 0 0 1000 10 0 0 0 1000 0");
        Check.equal("terms of 0", Snapshot.terms(x, 0), " 20 3 30 0");
        Check.equal("terms of 1", Snapshot.terms(x, 1), " 40 6 20 0");
        Check.equal("terms of 2", Snapshot.terms(x, 2), " 60 12 10 0");
        Check.equal("mean depth", x.meanDepth(), 0.0);
        Check.equal("digest", x.digest(), Snapshot.digest(x, 0, 0));
        Check.refused("undo", x, STATE, () -> x.undo());
        Check.refused("street 0", x, INDEX, () -> x.street(0, 0));
        Check.refused("plow 0", x, INDEX, () -> x.plow(0, 0));
        Check.equal("length of the text", x.clearText(), 0);
        Check.equal("hours of no text", x.runText(), 0);
        SnowRounds other = new SnowRounds();
        x.addStreet(100, 0);
        x.setTerms(0, 1, 1, 1);
        x.append('1');
        Check.equal("another object", Snapshot.of(other), Snapshot.of(new SnowRounds()));
    }

    private static void addStreet() {
        Check.promise(2);
        SnowRounds x = new SnowRounds();
        Check.equal("addStreet(10, 0)", x.addStreet(10, 0), 0);
        Check.equal("addStreet(2000, 2)", x.addStreet(2000, 2), 1);
        Check.equal("addStreet(777, 1)", x.addStreet(777, 1), 2);
        Check.equal("street 0", Snapshot.street(x, 0), " 10 0 0 0 0 0 0 0 -1");
        Check.equal("street 1", Snapshot.street(x, 1), " 2000 2 0 0 0 0 0 0 -1");
        Check.equal("street 2", Snapshot.street(x, 2), " 777 1 0 0 0 0 0 0 -1");
        Check.equal("streets", x.value(1), 3);
        Check.undoable("addStreet", x, () -> x.addStreet(50, 1));
        addStreetAfterUndo();
    }

    private static void addStreetAfterUndo() {
        SnowRounds x = new SnowRounds();
        x.addStreet(100, 0);
        x.run(100, 100, 5);
        x.run(-300, 100, 9);
        Check.equal("the old street", Snapshot.street(x, 0), " 100 0 1300 0 100 14 1 0 -1");
        x.undo();
        x.undo();
        x.undo();
        Check.equal("streets after undo", x.value(1), 0);
        Check.equal("addStreet after undo", x.addStreet(30, 2), 0);
        Check.equal("the new street", Snapshot.street(x, 0), " 30 2 0 0 0 0 0 0 -1");
    }

    private static void addStreetRefuses() {
        SnowRounds x = new SnowRounds();
        for (int length : new int[] {9, 2001, 0, -10, FAR_OUT[0], FAR_OUT[1]}) {
            Check.refused("addStreet(" + length + ", 0)", x, ARGUMENT, () -> x.addStreet(length, 0));
        }
        for (int priority : new int[] {-1, 3, FAR_OUT[0], FAR_OUT[1]}) {
            Check.refused("addStreet(10, " + priority + ")", x, ARGUMENT, () -> x.addStreet(10, priority));
        }
        for (int i = 0; i < 20; i++) {
            Check.equal("street " + i, x.addStreet(10 + i, i % 3), i);
        }
        Check.refused("a 21st street", x, STATE, () -> x.addStreet(10, 0));
        Check.refused("a 21st street without length", x, ARGUMENT, () -> x.addStreet(9, 0));
        Check.refused("a 21st street of priority 3", x, ARGUMENT, () -> x.addStreet(10, 3));
        x.undo();
        Check.equal("the 20th street again", x.addStreet(10, 0), 19);
    }

    private static void addPlow() {
        Check.promise(3);
        SnowRounds x = new SnowRounds();
        Check.equal("addPlow(100, 0)", x.addPlow(100, 0), 0);
        Check.equal("addPlow(5000, 5000)", x.addPlow(5000, 5000), 1);
        Check.equal("addPlow(333, 44)", x.addPlow(333, 44), 2);
        Check.equal("plow 0", Snapshot.plow(x, 0), " 100 0 0 0 0 0 0 0");
        Check.equal("plow 1", Snapshot.plow(x, 1), " 5000 5000 0 0 0 0 0 0");
        Check.equal("plow 2", Snapshot.plow(x, 2), " 333 44 0 0 0 0 0 0");
        Check.equal("plows", x.value(2), 3);
        SnowRounds y = new SnowRounds();
        Check.undoable("addPlow", y, () -> y.addPlow(100, 0));
        y.addPlow(200, 70);
        y.addStreet(500, 0);
        y.addStop(0, 0);
        y.run(0, 30, 1);
        Check.equal("the plow at work", Snapshot.plow(y, 0), " 200 70 70 1 0 200 0 200");
        for (int i = 0; i < 4; i++) {
            y.undo();
        }
        Check.equal("plows after undo", y.value(2), 0);
        Check.equal("addPlow after undo", y.addPlow(300, 5), 0);
        Check.equal("the new plow", Snapshot.plow(y, 0), " 300 5 0 0 0 0 0 0");
        Check.refused("its route", y, INDEX, () -> y.stop(0, 0));
    }

    private static void addPlowRefuses() {
        SnowRounds x = new SnowRounds();
        for (int speed : new int[] {99, 5001, 0, -100, FAR_OUT[0], FAR_OUT[1]}) {
            Check.refused("addPlow(" + speed + ", 0)", x, ARGUMENT, () -> x.addPlow(speed, 0));
        }
        for (int capacity : new int[] {-1, 5001, FAR_OUT[0], FAR_OUT[1]}) {
            Check.refused("addPlow(100, " + capacity + ")", x, ARGUMENT, () -> x.addPlow(100, capacity));
        }
        x.addPlow(100, 0);
        x.addPlow(100, 0);
        x.addPlow(100, 0);
        Check.refused("a 4th plow", x, STATE, () -> x.addPlow(100, 0));
        Check.refused("a 4th plow without speed", x, ARGUMENT, () -> x.addPlow(99, 0));
        Check.refused("a 4th plow, too large", x, ARGUMENT, () -> x.addPlow(100, 5001));
    }

    private static SnowRounds withPlowAndStreets() {
        SnowRounds x = new SnowRounds();
        x.addStreet(100, 0);
        x.addStreet(200, 1);
        x.addStreet(300, 2);
        x.addPlow(250, 20);
        return x;
    }

    private static void addStop() {
        Check.promise(4);
        SnowRounds x = withPlowAndStreets();
        Check.equal("addStop(0, 2)", x.addStop(0, 2), 1);
        Check.equal("addStop(0, 0)", x.addStop(0, 0), 2);
        Check.equal("addStop(0, 2)", x.addStop(0, 2), 3);
        Check.equal("the route", Snapshot.route(x, 0), " [ 2 0 2 ]");
        SnowRounds y = withPlowAndStreets();
        Check.undoable("addStop", y, () -> y.addStop(0, 1));
        y.addStop(0, 2);
        y.run(0, 60, 1);
        Check.equal("a 2nd stop while the plow works", y.addStop(0, 1), 2);
        Check.equal("the plow", Snapshot.plow(y, 0), " 250 20 20 2 0 250 0 250");
        y.run(0, 0, 1);
        Check.equal("the plow has gone on to it", Snapshot.plow(y, 0), " 250 20 15 2 0 0 1 500");
    }

    private static void addStopRefuses() {
        SnowRounds x = withPlowAndStreets();
        for (int plow : new int[] {-1, 1, 3, FAR_OUT[0], FAR_OUT[1]}) {
            Check.refused("addStop(" + plow + ", 0)", x, INDEX, () -> x.addStop(plow, 0));
        }
        for (int street : new int[] {-1, 3, 20, FAR_OUT[0], FAR_OUT[1]}) {
            Check.refused("addStop(0, " + street + ")", x, INDEX, () -> x.addStop(0, street));
        }
        for (int i = 1; i <= 12; i++) {
            Check.equal("stop " + i, x.addStop(0, i % 3), i);
        }
        Check.refused("a 13th stop", x, STATE, () -> x.addStop(0, 0));
        Check.refused("a 13th stop, no street", x, INDEX, () -> x.addStop(0, 3));
        x.addPlow(100, 0);
        Check.equal("the other plow's route", x.addStop(1, 0), 1);
        Check.equal("the full route", Snapshot.route(x, 0), " [ 1 2 0 1 2 0 1 2 0 1 2 0 ]");
    }

    private static void clearRoute() {
        Check.promise(5);
        SnowRounds x = withPlowAndStreets();
        x.addStop(0, 0);
        x.addStop(0, 2);
        x.run(0, 60, 1);
        Check.equal("the plow before", Snapshot.plow(x, 0), " 250 20 19 2 1 150 0 250");
        Check.undoable("clearRoute", x, () -> x.clearRoute(0));
        Check.equal("the route after undo", Snapshot.route(x, 0), " [ 0 2 ]");
        Check.equal("clearRoute(0)", x.clearRoute(0), 2);
        Check.equal("the plow after", Snapshot.plow(x, 0), " 250 20 19 0 0 0 0 250");
        Check.equal("the route", Snapshot.route(x, 0), " [ ]");
        Check.equal("clearRoute(0) again", x.clearRoute(0), 0);
        Check.undoable("clearRoute of an empty route", x, () -> x.clearRoute(0));
        Check.equal("a stop in the cleared route", x.addStop(0, 1), 1);
        for (int plow : new int[] {-1, 1, 2, FAR_OUT[0], FAR_OUT[1]}) {
            Check.refused("clearRoute(" + plow + ")", x, INDEX, () -> x.clearRoute(plow));
        }
    }

    private static void exchange() {
        Check.promise(6);
        SnowRounds x = withPlowAndStreets();
        x.addStop(0, 0);
        x.addStop(0, 1);
        x.addStop(0, 2);
        Check.equal("exchange(0, 0)", x.exchange(0, 0), 1);
        Check.equal("the route", Snapshot.route(x, 0), " [ 1 0 2 ]");
        Check.equal("exchange(0, 1)", x.exchange(0, 1), 2);
        Check.equal("the route", Snapshot.route(x, 0), " [ 1 2 0 ]");
        x.undo();
        Check.equal("the route after undo", Snapshot.route(x, 0), " [ 1 0 2 ]");
        Check.undoable("exchange", x, () -> x.exchange(0, 1));
        SnowRounds y = withPlowAndStreets();
        y.addStop(0, 1);
        y.addStop(0, 1);
        Check.equal("exchange of equal places", y.exchange(0, 0), 1);
        Check.undoable("exchange of equal places", y, () -> y.exchange(0, 0));
    }

    private static void exchangeRefuses() {
        SnowRounds x = withPlowAndStreets();
        Check.refused("exchange(0, 0) of no places", x, INDEX, () -> x.exchange(0, 0));
        Check.refused("exchange(0, -1) of no places", x, INDEX, () -> x.exchange(0, -1));
        x.addStop(0, 0);
        Check.refused("exchange(0, 0) of one place", x, INDEX, () -> x.exchange(0, 0));
        x.addStop(0, 2);
        x.addStop(0, 1);
        x.addStop(0, 0);
        for (int plow : new int[] {-1, 1, FAR_OUT[0], FAR_OUT[1]}) {
            Check.refused("exchange(" + plow + ", 0)", x, INDEX, () -> x.exchange(plow, 0));
        }
        for (int place : new int[] {-1, 3, 4, 12, FAR_OUT[0], FAR_OUT[1]}) {
            Check.refused("exchange(0, " + place + ")", x, INDEX, () -> x.exchange(0, place));
        }
        x.run(0, 60, 1);
        Check.equal("the plow is at place 1", Snapshot.plow(x, 0), " 250 20 19 4 1 150 0 250");
        Check.refused("exchange(0, 0) at work", x, STATE, () -> x.exchange(0, 0));
        Check.refused("exchange(0, 1) at work", x, STATE, () -> x.exchange(0, 1));
        Check.refused("exchange(0, 3) at work", x, INDEX, () -> x.exchange(0, 3));
        Check.equal("exchange(0, 2) at work", x.exchange(0, 2), 0);
        Check.equal("the route", Snapshot.route(x, 0), " [ 0 2 0 1 ]");
        exchangeWithoutProgress();
        exchangeWithOneMeter();
    }

    private static void exchangeWithoutProgress() {
        SnowRounds x = new SnowRounds();
        x.addStreet(100, 0);
        x.addStreet(300, 0);
        x.addPlow(100, 0);
        x.addStop(0, 0);
        x.addStop(0, 1);
        x.addStop(0, 0);
        x.run(0, 20, 1);
        Check.equal("the plow has not begun place 1", Snapshot.plow(x, 0), " 100 0 0 3 1 0 0 100");
        Check.equal("exchange(0, 0) there", x.exchange(0, 0), 1);
        Check.equal("exchange(0, 1) there", x.exchange(0, 1), 0);
        Check.equal("the plow stays at its place", Snapshot.plow(x, 0), " 100 0 0 3 1 0 0 100");
    }

    private static void exchangeWithOneMeter() {
        SnowRounds x = new SnowRounds();
        x.addStreet(99, 0);
        x.addStreet(300, 0);
        x.addPlow(100, 0);
        x.addStop(0, 0);
        x.addStop(0, 1);
        x.run(0, 20, 1);
        Check.equal("one meter of place 1", Snapshot.plow(x, 0), " 100 0 0 2 1 1 0 100");
        Check.refused("exchange(0, 0) with one meter", x, STATE, () -> x.exchange(0, 0));
    }

    private static void setTerms() {
        Check.promise(7);
        SnowRounds x = new SnowRounds();
        x.addStreet(100, 1);
        Check.equal("setTerms(0, 1, 1, 0)", x.setTerms(0, 1, 1, 0), 20);
        Check.equal("setTerms(2, 200, 48, 1000)", x.setTerms(2, 200, 48, 1000), 60);
        Check.undoable("setTerms", x, () -> x.setTerms(1, 7, 8, 9));
        Check.equal("setTerms(1, 7, 8, 9)", x.setTerms(1, 7, 8, 9), 40);
        Check.equal("terms of 0", Snapshot.terms(x, 0), " 1 1 0 0");
        Check.equal("terms of 1", Snapshot.terms(x, 1), " 7 8 9 0");
        Check.equal("terms of 2", Snapshot.terms(x, 2), " 200 48 1000 0");
        Check.equal("setTerms(1, 8, 8, 9)", x.setTerms(1, 8, 8, 9), 7);
        x.undo();
        x.undo();
        Check.undoable("setTerms to the same", x, () -> x.setTerms(1, 40, 6, 20));
        setTermsKeepsComplaints();
    }

    private static void setTermsKeepsComplaints() {
        SnowRounds x = new SnowRounds();
        x.addStreet(100, 0);
        x.run(0, 30, 5);
        Check.equal("two complaints", Snapshot.terms(x, 0), " 20 3 30 2");
        x.setTerms(0, 200, 1, 1);
        Check.equal("they stay", Snapshot.terms(x, 0), " 200 1 1 2");
        Check.equal("the street is not due now", Snapshot.street(x, 0), " 100 0 150 0 0 5 0 0 -1");
        x.setTerms(0, 150, 1, 7);
        Check.equal("the street is due again", Snapshot.street(x, 0), " 100 0 150 0 0 5 1 0 -1");
        Check.equal("the new credit and limit", x.run(0, 0, 2), 14);
    }

    private static void setTermsRefuses() {
        SnowRounds x = new SnowRounds();
        for (int priority : new int[] {-1, 3, FAR_OUT[0], FAR_OUT[1]}) {
            Check.refused("setTerms of " + priority, x, INDEX, () -> x.setTerms(priority, 1, 1, 1));
            Check.refused("setTerms, all wrong, of " + priority, x, INDEX, () -> x.setTerms(priority, 0, 0, -1));
        }
        for (int trigger : new int[] {0, 201, -1, FAR_OUT[0], FAR_OUT[1]}) {
            Check.refused("trigger " + trigger, x, ARGUMENT, () -> x.setTerms(0, trigger, 1, 1));
        }
        for (int limit : new int[] {0, 49, -1, FAR_OUT[0], FAR_OUT[1]}) {
            Check.refused("limit " + limit, x, ARGUMENT, () -> x.setTerms(1, 1, limit, 1));
        }
        for (int credit : new int[] {-1, 1001, FAR_OUT[0], FAR_OUT[1]}) {
            Check.refused("credit " + credit, x, ARGUMENT, () -> x.setTerms(2, 1, 1, credit));
        }
    }

    private static void setSpread() {
        Check.promise(8);
        SnowRounds x = new SnowRounds();
        Check.equal("setSpread(0)", x.setSpread(0), 10);
        Check.equal("setSpread(50)", x.setSpread(50), 0);
        Check.equal("the spread", x.value(4), 50);
        Check.undoable("setSpread", x, () -> x.setSpread(3));
        Check.undoable("setSpread to the same", x, () -> x.setSpread(50));
        for (int spread : new int[] {-1, 51, FAR_OUT[0], FAR_OUT[1]}) {
            Check.refused("setSpread(" + spread + ")", x, ARGUMENT, () -> x.setSpread(spread));
        }
    }

    private static void deliver() {
        Check.promise(9);
        SnowRounds x = new SnowRounds();
        Check.equal("deliver(0)", x.deliver(0), 1000);
        Check.equal("deliver(250)", x.deliver(250), 1250);
        Check.equal("values", Snapshot.values(x), " 0 0 0 1250 10 0 0 0 1250 0");
        Check.undoable("deliver", x, () -> x.deliver(1));
        Check.undoable("deliver nothing", x, () -> x.deliver(0));
        Check.equal("deliver up to the limit", x.deliver(98750), 100000);
        Check.equal("what was delivered", x.value(8), 100000);
        x.undo();
        Check.equal("what was delivered, undone", x.value(8), 1250);
    }

    private static void deliverRefuses() {
        SnowRounds x = new SnowRounds();
        for (int kilograms : new int[] {-1, 100001, FAR_OUT[0], FAR_OUT[1]}) {
            Check.refused("deliver(" + kilograms + ")", x, ARGUMENT, () -> x.deliver(kilograms));
        }
        Check.refused("deliver(99001)", x, STATE, () -> x.deliver(99001));
        Check.refused("deliver(100000)", x, STATE, () -> x.deliver(100000));
        Check.equal("deliver(99000)", x.deliver(99000), 100000);
        Check.refused("deliver(1) to a full store", x, STATE, () -> x.deliver(1));
        Check.equal("deliver(0) to a full store", x.deliver(0), 100000);
        SnowRounds y = new SnowRounds();
        y.addStreet(10, 0);
        y.addPlow(100, 5000);
        y.addStop(0, 0);
        y.run(0, 0, 1);
        Check.equal("the plow has the salt", y.value(3), 0);
        Check.equal("deliver(100000) to an empty store", y.deliver(100000), 100000);
        Check.equal("what was delivered", y.value(8), 101000);
    }

    private BuildingTests() {
    }
}
