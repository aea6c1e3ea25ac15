/** Promise 10: what happens in an hour, and how many of them may pass. */
final class HourTests {
    private static final Class<IllegalArgumentException> ARGUMENT = IllegalArgumentException.class;
    private static final Class<IllegalStateException> STATE = IllegalStateException.class;

    static void runAll() {
        Check.promise(10);
        snowFalls();
        snowMelts();
        waterFreezes();
        iceMelts();
        plowsLoad();
        plowsWork();
        plowsSkip();
        plowsEndTheirRound();
        plowsTakeTurns();
        beginsAndFinishes();
        saltIsSpread();
        iceIsTaken();
        streetsWait();
        creditsAreOfTheseHours();
        waitingOfPriorities();
        hoursPass();
        runRefuses();
        runIsUndoable();
    }

    private static SnowRounds oneStreet(int length, int priority) {
        SnowRounds x = new SnowRounds();
        x.addStreet(length, priority);
        return x;
    }

    /** Depth, wetness and ice of a street. */
    private static String ground(SnowRounds x, int street) {
        return x.street(street, 2) + " " + x.street(street, 3) + " " + x.street(street, 4);
    }

    private static void snowFalls() {
        SnowRounds x = new SnowRounds();
        x.addStreet(10, 0);
        x.addStreet(20, 1);
        Check.equal("run(0, 7, 2)", x.run(0, 7, 2), 0);
        Check.equal("snow on street 0", ground(x, 0), "14 0 0");
        Check.equal("snow on street 1", ground(x, 1), "14 0 0");
        x.run(0, 0, 3);
        Check.equal("no more snow", ground(x, 0), "14 0 0");
        x.run(0, 100, 1);
        Check.equal("much snow", ground(x, 1), "114 0 0");
    }

    private static void snowMelts() {
        SnowRounds x = oneStreet(100, 2);
        x.run(4, 30, 1);
        Check.equal("0.4 degrees melt nothing", ground(x, 0), "30 0 0");
        x.run(5, 0, 1);
        Check.equal("0.5 degrees", ground(x, 0), "29 2 0");
        x.run(14, 0, 1);
        Check.equal("1.4 degrees", ground(x, 0), "27 6 0");
        x.run(99, 10, 1);
        Check.equal("the snow of the hour melts, too", ground(x, 0), "18 44 0");
        x.run(300, 0, 1);
        Check.equal("no more than there is", ground(x, 0), "0 80 0");
        x.run(299, 100, 1);
        Check.equal("the wetness ends at 100", ground(x, 0), "41 100 0");
    }

    private static void waterFreezes() {
        SnowRounds x = oneStreet(100, 2);
        x.run(250, 50, 1);
        Check.equal("wet", ground(x, 0), "0 100 0");
        x.run(-1, 0, 1);
        Check.equal("-0.1 degrees", ground(x, 0), "0 99 1");
        x.run(-9, 0, 1);
        Check.equal("-0.9 degrees", ground(x, 0), "0 98 2");
        x.run(-10, 0, 1);
        Check.equal("-1 degree", ground(x, 0), "0 96 4");
        x.run(-300, 3, 1);
        Check.equal("-30 degrees", ground(x, 0), "3 65 35");
        x.run(-300, 0, 2);
        Check.equal("-30 degrees for two hours", ground(x, 0), "3 3 97");
        x.run(300, 97, 1);
        Check.equal("wet again", ground(x, 0), "40 100 37");
        x.run(-300, 0, 3);
        Check.equal("the ice ends at 100", ground(x, 0), "40 7 100");
        x.run(-299, 0, 1);
        Check.equal("what freezes above 100 is gone", ground(x, 0), "40 0 100");
    }

    private static void iceMelts() {
        SnowRounds x = oneStreet(100, 2);
        x.run(250, 50, 1);
        x.run(-300, 0, 1);
        Check.equal("ice", ground(x, 0), "0 69 31");
        x.run(0, 0, 1);
        Check.equal("no degree", ground(x, 0), "0 69 31");
        x.run(54, 0, 1);
        Check.equal("5.4 degrees", ground(x, 0), "0 69 21");
        x.run(110, 0, 1);
        Check.equal("no ice below 0", ground(x, 0), "0 69 0");
    }

    private static void plowsLoad() {
        SnowRounds x = oneStreet(1000, 0);
        x.addPlow(400, 600);
        x.addPlow(400, 700);
        x.addPlow(400, 50);
        x.addStop(0, 0);
        x.addStop(2, 0);
        x.run(0, 0, 1);
        Check.equal("plow 0 has loaded", Snapshot.plow(x, 0), " 400 600 600 1 0 0 1 0");
        Check.equal("plow 1 has no route", Snapshot.plow(x, 1), " 400 700 0 0 0 0 0 0");
        Check.equal("plow 2 has loaded", Snapshot.plow(x, 2), " 400 50 50 1 0 0 1 0");
        x.addStop(1, 0);
        x.run(0, 20, 1);
        Check.equal("plow 1 has what was left", Snapshot.plow(x, 1), " 400 700 350 1 0 400 0 400");
        Check.equal("the store", x.value(3), 0);
        x.deliver(100);
        x.run(0, 0, 1);
        Check.equal("no load with a progress", Snapshot.plow(x, 1), " 400 700 350 1 0 800 0 800");
        Check.equal("the store has it", x.value(3), 100);
        x.run(0, 0, 1);
        Check.equal("plow 0 has cleared", Snapshot.plow(x, 0), " 400 600 590 1 0 0 2 1000");
        x.run(0, 0, 1);
        Check.equal("what is free is loaded", Snapshot.plow(x, 0), " 400 600 600 1 0 0 3 1000");
        loadOnlyAtTheFirstPlace();
    }

    private static void loadOnlyAtTheFirstPlace() {
        SnowRounds x = oneStreet(200, 0);
        x.setSpread(50);
        x.addPlow(200, 10);
        x.addStop(0, 0);
        x.addStop(0, 0);
        x.run(0, 20, 1);
        Check.equal("the plow is at place 1", Snapshot.plow(x, 0), " 200 10 0 2 1 0 0 200");
        x.run(0, 20, 1);
        Check.equal("it has not loaded there", Snapshot.plow(x, 0), " 200 10 0 2 0 0 1 400");
        x.run(0, 0, 1);
        Check.equal("it has loaded at the start", Snapshot.plow(x, 0), " 200 10 10 2 0 0 2 400");
    }

    private static void plowsWork() {
        SnowRounds x = new SnowRounds();
        x.addStreet(150, 0);
        x.addStreet(250, 0);
        x.addPlow(300, 0);
        x.addStop(0, 0);
        x.addStop(0, 1);
        x.run(0, 19, 1);
        Check.equal("no street is due", Snapshot.plow(x, 0), " 300 0 0 2 0 0 1 0");
        x.run(0, 1, 1);
        Check.equal("the plow", Snapshot.plow(x, 0), " 300 0 0 2 1 150 1 300");
        Check.equal("street 0", Snapshot.street(x, 0), " 150 0 0 0 0 0 0 1 1");
        Check.equal("street 1", Snapshot.street(x, 1), " 250 0 20 0 0 1 1 0 -1");
        x.run(0, 5, 1);
        Check.equal("the plow", Snapshot.plow(x, 0), " 300 0 0 2 0 0 2 400");
        Check.equal("street 0", Snapshot.street(x, 0), " 150 0 5 0 0 0 0 1 1");
        Check.equal("street 1", Snapshot.street(x, 1), " 250 0 0 0 0 0 0 1 2");
    }

    private static void plowsSkip() {
        SnowRounds x = new SnowRounds();
        x.addStreet(100, 2);
        x.addStreet(100, 0);
        x.addPlow(100, 0);
        x.addStop(0, 0);
        x.addStop(0, 1);
        x.addStop(0, 0);
        x.addStop(0, 1);
        x.run(0, 30, 1);
        Check.equal("the meters end behind place 1", Snapshot.plow(x, 0), " 100 0 0 4 2 0 0 100");
        x.run(0, 0, 1);
        Check.equal("the rest is not due", Snapshot.plow(x, 0), " 100 0 0 4 0 0 1 100");
        x.run(0, 0, 2);
        Check.equal("nothing is due: a round each hour", Snapshot.plow(x, 0), " 100 0 0 4 0 0 3 100");
        Check.equal("street 0 has its snow", x.street(0, 2), 30);
    }

    private static void plowsEndTheirRound() {
        SnowRounds x = new SnowRounds();
        x.addStreet(100, 0);
        x.addStreet(200, 0);
        x.addPlow(5000, 0);
        x.addStop(0, 0);
        x.addStop(0, 1);
        x.run(0, 20, 1);
        Check.equal("one round an hour", Snapshot.plow(x, 0), " 5000 0 0 2 0 0 1 300");
        x.run(0, 20, 1);
        Check.equal("the next round", Snapshot.plow(x, 0), " 5000 0 0 2 0 0 2 600");
        Check.equal("street 1", Snapshot.street(x, 1), " 200 0 0 0 0 0 0 2 1");
        SnowRounds y = new SnowRounds();
        y.addStreet(100, 0);
        y.addPlow(300, 0);
        for (int i = 0; i < 12; i++) {
            y.addStop(0, 0);
        }
        y.run(0, 20, 1);
        Check.equal("a street that stands more than once", Snapshot.plow(y, 0), " 300 0 0 12 0 0 1 100");
    }

    private static void plowsTakeTurns() {
        SnowRounds x = oneStreet(300, 0);
        x.addPlow(100, 0);
        x.addPlow(150, 0);
        x.addPlow(300, 0);
        x.addStop(0, 0);
        x.addStop(1, 0);
        x.addStop(2, 0);
        x.run(0, 20, 1);
        Check.equal("plow 0 has begun", Snapshot.plow(x, 0), " 100 0 0 1 0 100 0 100");
        Check.equal("plow 1 has begun", Snapshot.plow(x, 1), " 150 0 0 1 0 150 0 150");
        Check.equal("plow 2 has cleared", Snapshot.plow(x, 2), " 300 0 0 1 0 0 1 300");
        x.run(0, 0, 1);
        Check.equal("plow 0 goes on", Snapshot.plow(x, 0), " 100 0 0 1 0 200 0 200");
        Check.equal("plow 1 has cleared it again", Snapshot.plow(x, 1), " 150 0 0 1 0 0 1 300");
        Check.equal("plow 2 finds it clear", Snapshot.plow(x, 2), " 300 0 0 1 0 0 2 300");
        Check.equal("the street", Snapshot.street(x, 0), " 300 0 0 0 0 0 0 2 1");
        SnowRounds y = oneStreet(300, 0);
        y.addPlow(300, 0);
        y.addPlow(300, 0);
        y.addStop(1, 0);
        y.addStop(0, 0);
        y.run(0, 20, 1);
        Check.equal("plow 0 comes first", y.plow(0, 7) + " " + y.plow(1, 7), "300 0");
    }

    private static void beginsAndFinishes() {
        SnowRounds x = oneStreet(300, 0);
        x.addPlow(200, 0);
        x.addStop(0, 0);
        x.run(0, 20, 1);
        x.run(300, 0, 1);
        Check.equal("a begun street is finished", Snapshot.plow(x, 0), " 200 0 0 1 0 0 1 300");
        Check.equal("the street", Snapshot.street(x, 0), " 300 0 0 40 0 0 0 1 1");
        SnowRounds y = oneStreet(300, 0);
        y.addPlow(300, 0);
        y.addStop(0, 0);
        y.setTerms(0, 21, 3, 30);
        y.run(0, 20, 1);
        Check.equal("not due below the trigger", Snapshot.plow(y, 0), " 300 0 0 1 0 0 1 0");
        y.run(0, 1, 1);
        Check.equal("due at the trigger", Snapshot.plow(y, 0), " 300 0 0 1 0 0 2 300");
    }

    private static void saltIsSpread() {
        SnowRounds x = new SnowRounds();
        x.addStreet(150, 0);
        x.addStreet(100, 0);
        x.addStreet(101, 0);
        x.addPlow(5000, 5);
        x.addStop(0, 0);
        x.addStop(0, 1);
        x.addStop(0, 2);
        x.run(0, 20, 1);
        Check.equal("2 + 1 + 2 kilograms", Snapshot.plow(x, 0), " 5000 5 0 3 0 0 1 351");
        Check.equal("the accounts", Snapshot.values(x), " 1 3 1 995 10 0 0 0 1000 5");
        x.setSpread(0);
        x.run(0, 20, 1);
        Check.equal("no need", Snapshot.plow(x, 0), " 5000 5 5 3 0 0 2 702");
        x.setSpread(50);
        x.run(0, 20, 1);
        Check.equal("8 are needed of 5", Snapshot.plow(x, 0), " 5000 5 0 3 0 0 3 1053");
        Check.equal("the accounts", Snapshot.values(x), " 3 3 1 990 50 0 0 0 1000 10");
        SnowRounds z = oneStreet(1001, 0);
        z.setSpread(1);
        z.addPlow(2000, 500);
        z.addStop(0, 0);
        z.run(0, 20, 1);
        Check.equal("1001 grams need 2 kilograms", z.value(9), 2);
        SnowRounds y = oneStreet(2000, 0);
        y.setSpread(50);
        y.addPlow(2000, 500);
        y.addStop(0, 0);
        y.run(0, 20, 1);
        Check.equal("the largest need", y.value(9), 100);
    }

    /** A street of the length with the ice and enough snow to be due. */
    private static SnowRounds icy(int length, int ice, int spread, int capacity) {
        SnowRounds x = oneStreet(length, 0);
        x.setSpread(spread);
        x.run(250, 50, 1);
        for (int left = ice; left > 0; left -= Math.min(left, 30)) {
            x.run(-10 * Math.min(left, 30) + 1, 0, 1);
        }
        Check.equal("ice is made", x.street(0, 4), ice);
        x.addPlow(length < 100 ? 100 : length, capacity);
        x.addStop(0, 0);
        return x;
    }

    private static void iceIsTaken() {
        SnowRounds x = icy(1000, 77, 10, 10);
        x.run(0, 20, 1);
        Check.equal("all that is needed takes all", ground(x, 0), "0 23 0");
        SnowRounds y = icy(1000, 77, 10, 3);
        y.run(0, 20, 1);
        Check.equal("3 of 10 take 23 of 77", ground(y, 0), "0 23 54");
        SnowRounds z = icy(1000, 77, 0, 10);
        z.run(0, 20, 1);
        Check.equal("no spread takes nothing", ground(z, 0), "0 23 77");
        SnowRounds v = icy(1000, 77, 10, 0);
        v.run(0, 20, 1);
        Check.equal("no load takes nothing", ground(v, 0), "0 23 77");
        SnowRounds w = icy(10, 100, 1, 1);
        w.run(0, 20, 1);
        Check.equal("the least need takes all", ground(w, 0), "0 0 0");
    }

    private static void streetsWait() {
        SnowRounds x = oneStreet(1000, 0);
        x.setTerms(0, 20, 2, 7);
        Check.equal("due from the second hour on", x.run(0, 19, 5), 7 * 2);
        SnowRounds y = oneStreet(1000, 0);
        y.setTerms(0, 20, 2, 7);
        Check.equal("not due", y.run(0, 19, 1), 0);
        Check.equal("not waiting", Snapshot.street(y, 0), " 1000 0 19 0 0 0 0 0 -1");
        Check.equal("the limit is not passed", y.run(0, 1, 2), 0);
        Check.equal("waiting", Snapshot.street(y, 0), " 1000 0 21 0 0 2 1 0 -1");
        Check.equal("the first complaint", y.run(0, 0, 1), 7);
        Check.equal("again in each hour", y.run(0, 0, 3), 21);
        Check.equal("values", Snapshot.values(y), " 7 1 0 1000 10 4 28 1 1000 0");
        Check.equal("complaints of the priority", y.terms(0, 3), 4);
        Check.equal("it melts", y.run(10, 0, 1), 0);
        Check.equal("not waiting", Snapshot.street(y, 0), " 1000 0 19 4 0 0 0 0 -1");
        Check.equal("waiting from the beginning", y.run(0, 1, 3), 7);
        y.setTerms(0, 20, 2, 0);
        Check.equal("a complaint without credit", y.run(0, 0, 1), 0);
        Check.equal("is counted", y.value(5), 6);
    }

    private static void creditsAreOfTheseHours() {
        SnowRounds x = oneStreet(1000, 1);
        x.setTerms(1, 1, 1, 1000);
        Check.equal("the first hours", x.run(0, 1, 3), 2000);
        Check.equal("the next hours", x.run(0, 1, 2), 2000);
        Check.equal("no hours", x.run(0, 1, 0), 0);
        Check.equal("the credits that were paid", x.value(6), 4000);
    }

    private static void waitingOfPriorities() {
        SnowRounds x = new SnowRounds();
        for (int priority = 0; priority < 3; priority++) {
            x.addStreet(100, priority);
            x.addStreet(200, priority);
        }
        Check.equal("credits", x.run(0, 60, 12), 2 * (9 * 30 + 6 * 20));
        Check.equal("credits", x.run(0, 60, 1), 2 * (30 + 20 + 10));
        Check.equal("terms of 0", x.terms(0, 3), 20);
        Check.equal("terms of 1", x.terms(1, 3), 14);
        Check.equal("terms of 2", x.terms(2, 3), 2);
        Check.equal("values", Snapshot.values(x), " 13 6 0 1000 10 36 900 6 1000 0");
    }

    private static void hoursPass() {
        SnowRounds x = new SnowRounds();
        Check.equal("no hours", x.run(0, 0, 0), 0);
        Check.equal("the hour", x.value(0), 0);
        for (int i = 0; i < 19; i++) {
            x.run(300, 100, 100);
        }
        x.run(-300, 0, 99);
        Check.equal("the hour", x.value(0), 1999);
        Check.refused("2001 hours", x, STATE, () -> x.run(0, 0, 2));
        x.run(0, 0, 1);
        Check.equal("the hour", x.value(0), 2000);
        Check.refused("one more", x, STATE, () -> x.run(0, 0, 1));
        Check.refused("101 more", x, ARGUMENT, () -> x.run(0, 0, 101));
        Check.refused("one more, too warm", x, ARGUMENT, () -> x.run(301, 0, 1));
        Check.equal("no more hours", x.run(0, 0, 0), 0);
        SnowRounds y = oneStreet(2000, 0);
        for (int i = 0; i < 20; i++) {
            y.run(0, 100, 100);
        }
        Check.equal("the deepest snow", Snapshot.street(y, 0), " 2000 0 200000 0 0 2000 1 0 -1");
        Check.equal("its credits", y.value(6), 30 * 1997);
    }

    private static void runRefuses() {
        SnowRounds x = oneStreet(100, 0);
        x.run(0, 20, 1);
        int[] far = {Integer.MIN_VALUE, Integer.MAX_VALUE};
        for (int temperature : new int[] {-301, 301, far[0], far[1]}) {
            Check.refused("run at " + temperature, x, ARGUMENT, () -> x.run(temperature, 0, 1));
        }
        for (int snow : new int[] {-1, 101, far[0], far[1]}) {
            Check.refused("run with snow " + snow, x, ARGUMENT, () -> x.run(0, snow, 1));
        }
        for (int hours : new int[] {-1, 101, far[0], far[1]}) {
            Check.refused("run for " + hours, x, ARGUMENT, () -> x.run(0, 0, hours));
        }
    }

    private static void runIsUndoable() {
        SnowRounds x = new SnowRounds();
        x.addStreet(500, 0);
        x.addStreet(100, 1);
        x.setTerms(0, 5, 1, 9);
        x.addPlow(250, 8);
        x.addStop(0, 1);
        x.addStop(0, 0);
        Check.undoable("run", x, () -> x.run(40, 60, 7));
        Check.undoable("run for no hours", x, () -> x.run(40, 60, 0));
        x.run(20, 50, 3);
        Check.undoable("run", x, () -> x.run(-40, 60, 10));
    }

    private HourTests() {
    }
}
