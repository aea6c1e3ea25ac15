/** The two sentences about exceptions, for each promise that has some. */
final class RefusalSentences {
    private static final String NOTHING = "A call that throws an exception changes nothing.";
    private static final String FIRST = "If several exceptions apply, the one that is listed first is thrown.";

    static void runAll() {
        Check.each(
                RefusalSentences::buildingCalls, RefusalSentences::supplyCalls, RefusalSentences::readingCalls,
                RefusalSentences::questions, RefusalSentences::textCalls, RefusalSentences::refusedCallsSaveNothing,
                RefusalSentences::buildingCallsWithTwoReasons, RefusalSentences::supplyCallsWithTwoReasons,
                RefusalSentences::readingCallsWithTwoReasons, RefusalSentences::questionsWithTwoReasons,
                RefusalSentences::textCallsWithTwoReasons);
    }

    /** Each call is refused in a full contract, and leaves it, its saved states and its text alone. */
    private static void refuses(int promise, SnowRounds x, Class<? extends RuntimeException> wanted,
            Runnable... calls) {
        Check.sentence(promise, NOTHING);
        for (int i = 0; i < calls.length; i++) {
            Check.refused("refused call " + i, x, wanted, calls[i]);
        }
        SnowRounds untouched = Towns.brimful();
        for (int i = 4; i > 0; i--) {
            Check.equal("undo " + i, x.undo(), untouched.undo());
            Check.equal("state of undo " + i, Snapshot.of(x), Snapshot.of(untouched));
        }
        Check.refused("undo of no state", x, Check.STATE, () -> x.undo());
        Check.equal("the text", x.runText(), untouched.runText());
        Check.equal("state after the text", Snapshot.of(x), Snapshot.of(untouched));
    }

    private static void buildingCalls() {
        SnowRounds a = Towns.brimful();
        refuses(2, a, Check.ARGUMENT, () -> a.addStreet(9, 0), () -> a.addStreet(10, 3));
        SnowRounds b = Towns.brimful();
        refuses(2, b, Check.STATE, () -> b.addStreet(10, 0));
        SnowRounds c = Towns.brimful();
        refuses(3, c, Check.ARGUMENT, () -> c.addPlow(99, 0), () -> c.addPlow(100, -1));
        SnowRounds d = Towns.brimful();
        refuses(3, d, Check.STATE, () -> d.addPlow(100, 0));
        SnowRounds e = Towns.brimful();
        refuses(4, e, Check.INDEX, () -> e.addStop(3, 0), () -> e.addStop(1, 20));
        SnowRounds f = Towns.brimful();
        refuses(4, f, Check.STATE, () -> f.addStop(0, 5));
        SnowRounds g = Towns.brimful();
        refuses(5, g, Check.INDEX, () -> g.clearRoute(3), () -> g.clearRoute(-1));
        SnowRounds h = Towns.brimful();
        refuses(6, h, Check.INDEX, () -> h.exchange(3, 0), () -> h.exchange(0, 11), () -> h.exchange(0, -1),
                () -> h.exchange(2, 0));
        SnowRounds i = Towns.brimful();
        refuses(6, i, Check.STATE, () -> i.exchange(0, 0), () -> i.exchange(1, 1));
    }

    private static void supplyCalls() {
        SnowRounds a = Towns.brimful();
        refuses(7, a, Check.INDEX, () -> a.setTerms(3, 7, 7, 7), () -> a.setTerms(-1, 7, 7, 7));
        SnowRounds b = Towns.brimful();
        refuses(7, b, Check.ARGUMENT, () -> b.setTerms(0, 0, 7, 7), () -> b.setTerms(0, 7, 49, 7),
                () -> b.setTerms(0, 7, 7, 1001));
        SnowRounds c = Towns.brimful();
        refuses(8, c, Check.ARGUMENT, () -> c.setSpread(51), () -> c.setSpread(-1));
        SnowRounds d = Towns.brimful();
        refuses(9, d, Check.ARGUMENT, () -> d.deliver(-1), () -> d.deliver(100001));
        SnowRounds e = Towns.brimful();
        refuses(9, e, Check.STATE, () -> e.deliver(1), () -> e.deliver(100000));
        SnowRounds f = Towns.brimful();
        refuses(10, f, Check.ARGUMENT, () -> f.run(301, 50, 0), () -> f.run(0, 101, 0), () -> f.run(50, 50, -1));
        SnowRounds g = Towns.brimful();
        refuses(10, g, Check.STATE, () -> g.run(50, 50, 1), () -> g.run(50, 50, 100));
    }

    private static void readingCalls() {
        SnowRounds a = Towns.brimful();
        refuses(11, a, Check.ARGUMENT, () -> a.value(-1), () -> a.value(10));
        SnowRounds b = Towns.brimful();
        refuses(12, b, Check.INDEX, () -> b.street(20, 0), () -> b.street(-1, 0));
        SnowRounds c = Towns.brimful();
        refuses(12, c, Check.ARGUMENT, () -> c.street(19, 9), () -> c.street(0, -1));
        SnowRounds d = Towns.brimful();
        refuses(13, d, Check.INDEX, () -> d.plow(3, 0), () -> d.plow(-1, 0));
        SnowRounds e = Towns.brimful();
        refuses(13, e, Check.ARGUMENT, () -> e.plow(2, 8), () -> e.plow(0, -1));
        SnowRounds f = Towns.brimful();
        refuses(14, f, Check.INDEX, () -> f.stop(3, 0), () -> f.stop(0, 12), () -> f.stop(2, 0));
        SnowRounds g = Towns.brimful();
        refuses(15, g, Check.INDEX, () -> g.terms(3, 0), () -> g.terms(-1, 0));
        SnowRounds h = Towns.brimful();
        refuses(15, h, Check.ARGUMENT, () -> h.terms(2, 4), () -> h.terms(0, -1));
    }

    private static void questions() {
        SnowRounds a = Towns.brimful();
        refuses(17, a, Check.ARGUMENT, () -> a.creditsIn(301, 0, 0), () -> a.creditsIn(0, 101, 0),
                () -> a.creditsIn(0, 0, 101));
        SnowRounds b = Towns.brimful();
        refuses(18, b, Check.INDEX, () -> b.bestExchange(3, 0, 0, 0), () -> b.bestExchange(-1, 0, 0, 0));
        SnowRounds c = Towns.brimful();
        refuses(18, c, Check.ARGUMENT, () -> c.bestExchange(0, 301, 0, 0), () -> c.bestExchange(0, 0, 101, 0),
                () -> c.bestExchange(0, 0, 0, 51));
        SnowRounds d = Towns.brimful();
        refuses(19, d, Check.INDEX, () -> d.leastSpeed(3, 0, 0, 0), () -> d.leastSpeed(-1, 0, 0, 0));
        SnowRounds e = Towns.brimful();
        refuses(19, e, Check.ARGUMENT, () -> e.leastSpeed(0, 301, 0, 0), () -> e.leastSpeed(0, 0, 101, 0),
                () -> e.leastSpeed(0, 0, 0, 51));
        SnowRounds f = Towns.brimful();
        refuses(20, f, Check.ARGUMENT, () -> f.emptyIn(301, 0), () -> f.emptyIn(0, -1));
    }

    private static void textCalls() {
        SnowRounds a = Towns.brimful();
        refuses(21, a, Check.ARGUMENT, () -> a.append(-1), () -> a.append(128));
        SnowRounds b = Towns.brimful();
        refuses(21, b, Check.STATE, () -> b.append('9'), () -> b.append(';'));
        SnowRounds c = Towns.brimful();
        refuses(23, c, Check.STATE, () -> c.runText(), () -> c.runText());
        Check.sentence(24, NOTHING);
        SnowRounds d = Towns.withText("0,5;");
        Check.refused("undo of a new object", d, Check.STATE, () -> d.undo());
        Check.equal("the text is there", d.runText() + " " + d.value(0), "0 1");
    }

    /** Only the call before these has saved a state. */
    private static void refusedCallsSaveNothing() {
        SnowRounds x = new SnowRounds();
        x.deliver(7);
        Runnable[] calls = {() -> x.addStreet(9, 0), () -> x.addPlow(99, 0), () -> x.addStop(0, 0),
            () -> x.clearRoute(0), () -> x.exchange(0, 0), () -> x.setTerms(0, 0, 1, 1), () -> x.setSpread(51),
            () -> x.deliver(99000), () -> x.run(0, 0, 101)};
        for (int i = 0; i < calls.length; i++) {
            Check.sentence(i + 2, NOTHING);
            Check.isTrue("it throws", Check.thrownBy(calls[i]) != null);
            Check.equal("saved states", Snapshot.savedStates(x), 1);
        }
    }

    private static void throwsFirst(int promise, SnowRounds x, Class<? extends RuntimeException> wanted,
            Runnable... calls) {
        Check.sentence(promise, FIRST);
        for (int i = 0; i < calls.length; i++) {
            Check.refused("call " + i + " with two reasons", x, wanted, calls[i]);
        }
    }

    private static void buildingCallsWithTwoReasons() {
        SnowRounds x = Towns.brimful();
        throwsFirst(2, x, Check.ARGUMENT, () -> x.addStreet(9, 0), () -> x.addStreet(2001, 0), () -> x.addStreet(10, 3),
                () -> x.addStreet(10, -1));
        throwsFirst(3, x, Check.ARGUMENT, () -> x.addPlow(99, 0), () -> x.addPlow(5001, 0), () -> x.addPlow(100, -1),
                () -> x.addPlow(100, 5001));
        throwsFirst(4, x, Check.INDEX, () -> x.addStop(0, 20), () -> x.addStop(0, -1));
        SnowRounds y = Towns.lane(100, 2000, 10);
        y.run(0, 20, 1);
        Check.sentence(6, FIRST);
        Check.equal("place 0 is begun", Towns.way(y, 0), "0 100 0 100");
        throwsFirst(6, y, Check.INDEX, () -> y.exchange(0, -1));
        SnowRounds z = Towns.lane(100, 10, 2000);
        z.run(0, 20, 1);
        Check.equal("the last place is begun", Towns.way(z, 0), "1 90 0 100");
        throwsFirst(6, z, Check.INDEX, () -> z.exchange(0, 1));
        SnowRounds one = Towns.oneRoute(2000, 100, 0);
        one.run(0, 20, 1);
        throwsFirst(6, one, Check.INDEX, () -> one.exchange(0, 0), () -> one.exchange(0, -1));
    }

    private static void supplyCallsWithTwoReasons() {
        SnowRounds x = Towns.brimful();
        throwsFirst(7, x, Check.INDEX, () -> x.setTerms(3, 0, 1, 1), () -> x.setTerms(-1, 1, 0, 1),
                () -> x.setTerms(3, 1, 1, 1001), () -> x.setTerms(-1, 201, 49, -1));
        throwsFirst(9, x, Check.ARGUMENT, () -> x.deliver(100001), () -> x.deliver(Integer.MAX_VALUE));
        throwsFirst(10, x, Check.ARGUMENT, () -> x.run(301, 0, 1), () -> x.run(0, 101, 1), () -> x.run(0, 0, 101),
                () -> x.run(0, 0, Integer.MAX_VALUE));
    }

    private static void readingCallsWithTwoReasons() {
        SnowRounds x = Towns.brimful();
        throwsFirst(12, x, Check.INDEX, () -> x.street(20, 9), () -> x.street(-1, -1));
        throwsFirst(13, x, Check.INDEX, () -> x.plow(3, 8), () -> x.plow(-1, -1));
        throwsFirst(15, x, Check.INDEX, () -> x.terms(3, 4), () -> x.terms(-1, -1));
        SnowRounds none = new SnowRounds();
        throwsFirst(12, none, Check.INDEX, () -> none.street(0, 9));
        throwsFirst(13, none, Check.INDEX, () -> none.plow(0, 8));
    }

    private static void questionsWithTwoReasons() {
        SnowRounds x = Towns.brimful();
        throwsFirst(18, x, Check.INDEX, () -> x.bestExchange(3, 301, 0, 0), () -> x.bestExchange(-1, 0, 101, 0),
                () -> x.bestExchange(3, 0, 0, 51));
        throwsFirst(19, x, Check.INDEX, () -> x.leastSpeed(3, 301, 0, 0), () -> x.leastSpeed(-1, 0, 101, 0),
                () -> x.leastSpeed(3, 0, 0, 51));
    }

    private static void textCallsWithTwoReasons() {
        SnowRounds x = Towns.brimful();
        throwsFirst(21, x, Check.ARGUMENT, () -> x.append(128), () -> x.append(-1));
    }

    private RefusalSentences() {
    }
}
