/** Promises 24 and 25: undo and digest. */
final class StateTests {
    private static final Class<IllegalStateException> STATE = IllegalStateException.class;

    static void runAll() {
        undo();
        undoBringsBackEverything();
        whatIsNotUndoable();
        failedCallsSaveNothing();
        digest();
        digestSeesEveryChange();
    }

    private static void undo() {
        Check.promise(24);
        SnowRounds x = new SnowRounds();
        Check.refused("undo of nothing", x, STATE, () -> x.undo());
        for (int i = 1; i <= 6; i++) {
            x.setSpread(20 + i);
        }
        Check.equal("the first undo", x.undo(), 3);
        Check.equal("spread", x.value(4), 25);
        Check.equal("the second undo", x.undo(), 2);
        Check.equal("spread", x.value(4), 24);
        x.setSpread(50);
        Check.equal("an undo after a change", x.undo(), 2);
        Check.equal("spread", x.value(4), 24);
        Check.equal("the third undo", x.undo(), 1);
        Check.equal("the last undo", x.undo(), 0);
        Check.equal("the oldest states were dropped", x.value(4), 22);
        Check.refused("one undo more", x, STATE, () -> x.undo());
        Check.equal("change after all", x.setSpread(1), 22);
        Check.equal("undo after all", x.undo(), 0);
        Check.equal("spread", x.value(4), 22);
    }

    private static void undoBringsBackEverything() {
        SnowRounds x = new SnowRounds();
        x.addStreet(700, 0);
        x.addStreet(300, 1);
        x.addStreet(300, 2);
        x.addPlow(200, 40);
        x.addPlow(450, 20);
        x.addStop(0, 0);
        x.addStop(0, 1);
        x.addStop(1, 2);
        x.addStop(1, 1);
        x.run(40, 50, 10);
        x.run(-90, 15, 10);
        String first = Snapshot.state(x);
        x.run(-10, 20, 33);
        String second = Snapshot.state(x);
        x.clearRoute(1);
        String third = Snapshot.state(x);
        x.setTerms(2, 1, 1, 1);
        String fourth = Snapshot.state(x);
        x.deliver(77);
        Check.equal("undo", x.undo(), 3);
        Check.equal("the fourth state", Snapshot.state(x), fourth);
        Check.equal("undo", x.undo(), 2);
        Check.equal("the third state", Snapshot.state(x), third);
        Check.equal("undo", x.undo(), 1);
        Check.equal("the second state", Snapshot.state(x), second);
        int told = x.creditsIn(-10, 20, 30);
        Check.equal("undo", x.undo(), 0);
        Check.equal("the first state", Snapshot.state(x), first);
        x.run(-10, 20, 33);
        Check.equal("the second state again", Snapshot.state(x), second);
        Check.equal("its credits", x.run(-10, 20, 30), told);
    }

    private static void whatIsNotUndoable() {
        SnowRounds x = new SnowRounds();
        x.addStreet(100, 0);
        x.addPlow(100, 0);
        int saved = Snapshot.savedStates(x);
        x.append('1');
        x.runText();
        x.clearText();
        x.creditsIn(0, 0, 1);
        x.bestExchange(0, 0, 0, 1);
        x.leastSpeed(0, 0, 0, 1);
        x.emptyIn(0, 0);
        x.digest();
        Check.equal("saved states", Snapshot.savedStates(x), saved);
        Check.equal("two states", saved, 2);
    }

    private static void failedCallsSaveNothing() {
        SnowRounds x = new SnowRounds();
        x.deliver(7);
        Runnable[] calls = {() -> x.addStreet(9, 0), () -> x.addPlow(99, 0), () -> x.addStop(0, 0),
            () -> x.clearRoute(0), () -> x.exchange(0, 0), () -> x.setTerms(0, 0, 1, 1), () -> x.setSpread(51),
            () -> x.deliver(99000), () -> x.run(0, 0, 101)};
        for (int i = 0; i < calls.length; i++) {
            Check.isTrue("call " + i + " throws", Check.thrownBy(calls[i]) != null);
            Check.equal("saved states after call " + i, Snapshot.savedStates(x), 1);
        }
    }

    private static void digest() {
        Check.promise(25);
        SnowRounds x = new SnowRounds();
        Check.equal("the digest of a new object", x.digest(), Snapshot.digest(x, 0, 0));
        x.addStreet(100, 0);
        Check.equal("with a street", x.digest(), Snapshot.digest(x, 0, 1));
        x.addStreet(250, 2);
        x.addPlow(150, 20);
        x.addPlow(350, 10);
        x.addStop(0, 1);
        x.addStop(1, 0);
        x.addStop(1, 1);
        x.addStop(1, 0);
        TextTests.write(x, "abc");
        Check.equal("with plows", x.digest(), Snapshot.digest(x, 3, 4));
        x.run(50, 60, 5);
        x.run(-50, 60, 15);
        Check.equal("after hours", x.digest(), Snapshot.digest(x, 3, 4));
        x.undo();
        Check.equal("after undo", x.digest(), Snapshot.digest(x, 3, 3));
        x.clearText();
        Check.equal("without text", x.digest(), Snapshot.digest(x, 0, 3));
        Check.changesNothing("digest", x, () -> x.digest());
        Check.equal("the digest of a new object, worked out by hand", new SnowRounds().digest(), 5573134506766206452L);
    }

    private static void digestSeesEveryChange() {
        SnowRounds x = new SnowRounds();
        long last = x.digest();
        Runnable[] calls = {() -> x.addStreet(100, 0), () -> x.addStreet(100, 1), () -> x.addPlow(100, 9),
            () -> x.addStop(0, 0), () -> x.addStop(0, 1), () -> x.exchange(0, 0), () -> x.setTerms(1, 2, 3, 4),
            () -> x.setSpread(11), () -> x.deliver(1), () -> x.run(1, 1, 1), () -> x.append(0),
            () -> x.clearText(), () -> x.runText(), () -> x.clearRoute(0), () -> x.undo()};
        for (int i = 0; i < calls.length; i++) {
            calls[i].run();
            Check.isTrue("call " + i + " is seen", x.digest() != last || i == 12);
            last = x.digest();
        }
    }

    private StateTests() {
    }
}
