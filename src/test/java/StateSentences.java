/** The sentences that promises 24 and 25 rest on, undo of each promise, and the number of calls. */
final class StateSentences {
    private static final String SAVES = "Each successful call of a method whose description says \"undoable\" saves the"
            + " state from before the call, even if the call changes nothing; at most 4 states are saved, and the oldest"
            + " is dropped first.";
    private static final String SAVED = "The saved state contains everything except the weather text.";
    private static final String CALLS = "An object is used for at most 512 calls after it has been made; what later"
            + " calls answer is free.";

    static void runAll() {
        Check.each(
                StateSentences::callsThatChangeNothingSave, StateSentences::fourStatesAtMost,
                StateSentences::oldestIsDroppedFirst, StateSentences::readingCallsSaveNothing,
                StateSentences::savedStateHoldsEverything, StateSentences::savedStateIsNotTheText,
                StateSentences::undoRestoresTheLast, StateSentences::undoReturnsWhatRemains,
                StateSentences::undoWithoutStates, StateSentences::digestOfANewObject,
                StateSentences::digestOfEachValue, StateSentences::digestOfAFullContract,
                StateSentences::digestSeesEachChange, StateSentences::digestOverflows,
                StateSentences::lastCallOfEachMethod, StateSentences::callsAreNotUsedUp);
    }

    private static void savesOne(int promise, SnowRounds x, Runnable call) {
        Check.sentence(promise, SAVES);
        Check.undoable("a call that changes nothing", x, call);
    }

    private static void callsThatChangeNothingSave() {
        SnowRounds x = Towns.lane(100, 100, 100);
        x.addPlow(100, 0);
        x.clearRoute(1);
        x.addStop(0, 0);
        savesOne(5, x, () -> x.clearRoute(1));
        SnowRounds y = Towns.oneRoute(100, 100, 0);
        y.addStop(0, 0);
        savesOne(6, y, () -> y.exchange(0, 0));
        savesOne(7, x, () -> x.setTerms(0, 20, 3, 30));
        savesOne(8, x, () -> x.setSpread(10));
        savesOne(9, x, () -> x.deliver(0));
        savesOne(10, x, () -> x.run(300, 100, 0));
        savesOne(23, x, () -> x.runText());
        Check.sentence(2, SAVES);
        Check.undoable("addStreet", x, () -> x.addStreet(10, 0));
        Check.sentence(3, SAVES);
        Check.undoable("addPlow", x, () -> x.addPlow(100, 0));
        Check.sentence(4, SAVES);
        Check.undoable("addStop", x, () -> x.addStop(1, 0));
    }

    private static void fourStatesAtMost() {
        Check.sentence(24, SAVES);
        int[] calls = {0, 1, 3, 4, 5, 6, 9, 100};
        int[] states = {0, 1, 3, 4, 4, 4, 4, 4};
        for (int i = 0; i < calls.length; i++) {
            SnowRounds x = new SnowRounds();
            for (int k = 0; k < calls[i]; k++) {
                x.setSpread(k % 51);
            }
            Check.equal("saved states of " + calls[i] + " calls", Snapshot.savedStates(x), states[i]);
            int undone = 0;
            while (undone < 5 && Check.thrownBy(() -> x.undo()) == null) {
                undone++;
            }
            Check.equal("undos after " + calls[i] + " calls", undone, states[i]);
        }
    }

    private static void oldestIsDroppedFirst() {
        SnowRounds x = new SnowRounds();
        for (int spread = 21; spread <= 26; spread++) {
            x.setSpread(spread);
        }
        for (int spread = 25; spread >= 22; spread--) {
            x.undo();
            Check.equal("spread", x.value(4), spread);
        }
        Check.refused("the states before are dropped", x, Check.STATE, () -> x.undo());
        for (int spread = 31; spread <= 34; spread++) {
            x.setSpread(spread);
        }
        Check.equal("four states again", x.undo() + " " + x.value(4), "3 33");
        x.setSpread(41);
        x.setSpread(42);
        int[] spreads = {41, 33, 32, 31};
        for (int i = 0; i < spreads.length; i++) {
            Check.equal("undo " + i, x.undo() + " " + x.value(4), (3 - i) + " " + spreads[i]);
        }
        Check.refused("the oldest one is dropped", x, Check.STATE, () -> x.undo());
    }

    private static void readingCallsSaveNothing() {
        SnowRounds x = Towns.oneRoute(100, 100, 9);
        Runnable[] calls = {() -> x.value(0), () -> x.street(0, 0), () -> x.plow(0, 0), () -> x.stop(0, 0),
            () -> x.terms(0, 0), () -> x.meanDepth(), () -> x.creditsIn(0, 9, 9), () -> x.bestExchange(0, 0, 9, 9),
            () -> x.leastSpeed(0, 0, 9, 9), () -> x.emptyIn(0, 9), () -> x.append('1'), () -> x.runText(),
            () -> x.clearText(), () -> x.digest()};
        int[] promises = {11, 12, 13, 14, 15, 16, 17, 18, 19, 20, 21, 23, 22, 25};
        for (int i = 0; i < calls.length; i++) {
            Check.sentence(promises[i], SAVES);
            calls[i].run();
            Check.equal("saved states", Snapshot.savedStates(x), 3);
        }
    }

    private static void savedStateHoldsEverything() {
        Check.sentence(24, SAVED);
        SnowRounds x = Towns.brimful();
        String last = Snapshot.state(x);
        String[] states = new String[4];
        for (int i = 0; i < 4; i++) {
            x.undo();
            states[i] = Snapshot.state(x);
        }
        x.run(0, 0, 98);
        x.run(0, 90, 1);
        x.setSpread(13);
        x.deliver(100000 - x.value(3));
        Check.equal("all is done again", Snapshot.state(x), last);
        for (int i = 0; i < 4; i++) {
            x.undo();
            Check.equal("state " + i, Snapshot.state(x), states[i]);
        }
        undoOfEachNumber();
        undoOfEachCall();
    }

    /** An hour that changes all numbers that an hour can change, so that none is forgotten. */
    private static void undoOfEachNumber() {
        SnowRounds x = Towns.oneStreet(200, 0);
        x.addStreet(10, 0);
        x.addStreet(10, 0);
        x.run(60, 60, 2);
        x.addPlow(100, 9);
        x.addStop(0, 1);
        x.addStop(0, 0);
        x.run(-100, 60, 2);
        x.addPlow(100, 50);
        x.addStop(1, 1);
        int[][] before = numbers(x);
        String state = Snapshot.state(x);
        x.run(65, 60, 1);
        int[][] after = numbers(x);
        int[][] changed = {{0, 3, 5, 6, 9}, {2, 3, 4, 5, 7, 8}, {2, 4, 5, 6, 7}};
        for (int kind = 0; kind < changed.length; kind++) {
            for (int what : changed[kind]) {
                Check.isTrue("number " + what + " of " + kind + " changes", before[kind][what] != after[kind][what]);
            }
        }
        x.undo();
        Check.equal("all of them are as before", Snapshot.state(x), state);
    }

    /** value(), and what is told of street 0 and plow 0. */
    private static int[][] numbers(SnowRounds x) {
        int[][] all = {new int[10], new int[9], new int[8]};
        for (int what = 0; what < 10; what++) {
            all[0][what] = x.value(what);
        }
        for (int what = 0; what < 9; what++) {
            all[1][what] = x.street(0, what);
        }
        for (int what = 0; what < 8; what++) {
            all[2][what] = x.plow(0, what);
        }
        return all;
    }

    private static void undoOfEachCall() {
        SnowRounds y = Towns.oneRoute(150, 100, 9);
        y.run(60, 60, 1);
        y.run(-60, 30, 1);
        y.run(0, 30, 5);
        String last = Snapshot.state(y);
        int credits = y.creditsIn(0, 30, 20);
        Runnable[] calls = {() -> y.addStreet(10, 0), () -> y.addPlow(100, 5), () -> y.addStop(0, 0),
            () -> y.clearRoute(0), () -> y.setTerms(0, 1, 1, 1), () -> y.setSpread(50), () -> y.deliver(7),
            () -> y.run(70, 80, 100)};
        for (int i = 0; i < calls.length; i++) {
            calls[i].run();
            Check.isTrue("call " + i + " changes something", !Snapshot.state(y).equals(last));
            y.undo();
            Check.equal("undo of call " + i, Snapshot.state(y), last);
            Check.equal("what would be after it", y.creditsIn(0, 30, 20), credits);
        }
    }

    private static void savedStateIsNotTheText() {
        SnowRounds x = Towns.withText("0,1");
        x.addStreet(10, 0);
        x.append(';');
        x.undo();
        Check.equal("what was appended stays", x.clearText(), 4);
        x.addStreet(10, 0);
        Towns.write(x, "0,1;");
        x.run(0, 0, 1);
        x.clearText();
        x.undo();
        Check.equal("what was cleared stays so", x.clearText(), 0);
        Towns.write(x, "0,1x2;");
        x.runText();
        x.undo();
        Check.equal("the hours are undone", x.value(0), 0);
        Check.equal("the text is not", x.runText() + " " + x.value(0), "0 2");
    }

    private static void undoRestoresTheLast() {
        Check.sentence(24, "Restores the most recently saved state and removes it from the saved states.");
        SnowRounds x = new SnowRounds();
        x.addStreet(100, 0);
        x.addStreet(200, 1);
        x.setSpread(9);
        x.undo();
        Check.equal("the last call is undone", x.value(1) + " " + x.value(4), "2 10");
        x.undo();
        Check.equal("the call before is undone", x.value(1) + " " + x.value(4), "1 10");
        x.addPlow(100, 0);
        x.undo();
        Check.equal("a call after undo is undone", x.value(1) + " " + x.value(2), "1 0");
        x.undo();
        Check.equal("the first call is undone", Snapshot.state(x), Snapshot.state(new SnowRounds()));
    }

    private static void undoReturnsWhatRemains() {
        Check.sentence(24, "Returns the number of saved states that remain.");
        SnowRounds x = new SnowRounds();
        x.setSpread(1);
        Check.equal("of one", x.undo(), 0);
        for (int i = 0; i < 7; i++) {
            x.setSpread(i);
        }
        for (int remain = 3; remain >= 0; remain--) {
            Check.equal("of " + (remain + 1), x.undo(), remain);
        }
        x.setSpread(1);
        x.setSpread(2);
        Check.equal("of two", x.undo(), 1);
    }

    private static void undoWithoutStates() {
        Check.sentence(24, "Throws `IllegalStateException` if there is no saved state");
        SnowRounds x = Towns.withText("1,1;");
        Check.refused("of a new object", x, Check.STATE, () -> x.undo());
        x.setSpread(1);
        x.undo();
        Check.refused("after the last one", x, Check.STATE, () -> x.undo());
        Check.refused("once more", x, Check.STATE, () -> x.undo());
        x.setSpread(1);
        Check.equal("when there is one again", x.undo(), 0);
    }

    private static final String HASH = "Returns a hash of the state. Start with h = 3307 and, for each of the following"
            + " values v, set h = 31 * h + v: the length of the text; value() for 0 to 9; for each street the values of"
            + " street() for what = 0 to 8; for each plow the values of plow() for what = 0 to 7 and the streets of its"
            + " route; for each priority the values of terms() for what = 0 to 3; the number of saved states.";

    private static long hash(long... values) {
        long h = 3307;
        for (long v : values) {
            h = 31 * h + v;
        }
        return h;
    }

    private static void digestOfANewObject() {
        Check.sentence(25, HASH);
        long want = hash(0, 0, 0, 0, 1000, 10, 0, 0, 0, 1000, 0, 20, 3, 30, 0, 40, 6, 20, 0, 60, 12, 10, 0, 0);
        Check.equal("by hand", new SnowRounds().digest(), want);
        Check.equal("as a number", new SnowRounds().digest(), 5573134506766206452L);
        Check.equal("of one byte", Towns.withText("1").digest() - new SnowRounds().digest(), power(31, 23));
    }

    private static long power(long base, int exponent) {
        long product = 1;
        for (int i = 0; i < exponent; i++) {
            product *= base;
        }
        return product;
    }

    private static void digestOfEachValue() {
        SnowRounds x = Towns.withText("abc");
        x.addStreet(150, 0);
        x.addPlow(100, 7);
        x.addStop(0, 0);
        x.run(-30, 25, 1);
        Check.equal("by hand", x.digest(), hash(3, 1, 1, 1, 993, 10, 0, 0, 1, 1000, 0,
                150, 0, 25, 0, 0, 1, 1, 0, -1, 100, 7, 7, 1, 0, 100, 0, 100, 0,
                20, 3, 30, 0, 40, 6, 20, 0, 60, 12, 10, 0, 4));
        x.addStreet(20, 2);
        x.addPlow(200, 0);
        x.addStop(1, 1);
        x.addStop(1, 0);
        x.undo();
        Check.equal("two streets, two plows", x.digest(), hash(3, 1, 2, 2, 993, 10, 0, 0, 1, 1000, 0,
                150, 0, 25, 0, 0, 1, 1, 0, -1, 20, 2, 0, 0, 0, 0, 0, 0, -1,
                100, 7, 7, 1, 0, 100, 0, 100, 0, 200, 0, 0, 1, 0, 0, 0, 0, 1,
                20, 3, 30, 0, 40, 6, 20, 0, 60, 12, 10, 0, 3));
        Check.changesNothing("digest", x, () -> x.digest());
    }

    private static void digestOfAFullContract() {
        SnowRounds x = Towns.brimful();
        Check.equal("from the answers of the other methods", x.digest(), Snapshot.digest(x, 150, 4));
        x.undo();
        Check.equal("after undo", x.digest(), Snapshot.digest(x, 150, 3));
        x.clearText();
        Check.equal("without text", x.digest(), Snapshot.digest(x, 0, 3));
    }

    private static void digestSeesEachChange() {
        SnowRounds x = new SnowRounds();
        Runnable[] calls = {() -> x.addStreet(100, 0), () -> x.addStreet(100, 1), () -> x.addPlow(100, 9),
            () -> x.addStop(0, 0), () -> x.addStop(0, 1), () -> x.exchange(0, 0), () -> x.setTerms(1, 2, 3, 4),
            () -> x.setSpread(11), () -> x.deliver(1), () -> x.run(1, 1, 1), () -> x.append(0), () -> x.clearText(),
            () -> x.runText(), () -> x.clearRoute(0), () -> x.undo()};
        long last = x.digest();
        for (int i = 0; i < calls.length; i++) {
            calls[i].run();
            Check.equal("call " + i + " is seen", x.digest() != last, i != 12);
            last = x.digest();
        }
    }

    private static void digestOverflows() {
        Check.sentence(25, "Returns the hash, with the overflow of long arithmetic ignored.");
        boolean below = false;
        boolean above = false;
        SnowRounds x = new SnowRounds();
        for (int spread = 0; spread <= 50; spread++) {
            x.setSpread(spread);
            long got = x.digest();
            Check.equal("with the spread " + spread, got, Snapshot.digest(x, 0, Math.min(spread + 1, 4)));
            below |= got < 0;
            above |= got > 0;
        }
        Check.isTrue("some are below 0, some above", below && above);
    }

    private interface Call {
        Object answer(SnowRounds x);
    }

    private static Object outcome(SnowRounds x, Call call) {
        try {
            return call.answer(x);
        } catch (RuntimeException e) {
            return e.getClass().getName();
        }
    }

    /** 12 calls; then as many that leave this state as it is. */
    private static SnowRounds afterCalls(int calls) {
        SnowRounds x = new SnowRounds();
        x.addStreet(300, 0);
        x.addStreet(100, 1);
        x.addPlow(150, 5);
        x.addStop(0, 0);
        x.addStop(0, 1);
        Towns.write(x, "5,9x9;");
        x.run(-5, 30, 3);
        for (int i = 12; i < calls; i++) {
            x.setSpread(11);
        }
        return x;
    }

    private static void lastCallOfEachMethod() {
        Call[] calls = {x -> x.addStreet(10, 0), x -> x.addPlow(100, 0), x -> x.addStop(0, 0), x -> x.clearRoute(0),
            x -> x.exchange(0, 0), x -> x.setTerms(0, 1, 2, 3), x -> x.setSpread(3), x -> x.deliver(3),
            x -> x.run(5, 9, 30), x -> x.value(6), x -> x.street(0, 2), x -> x.plow(0, 7), x -> x.stop(0, 1),
            x -> x.terms(0, 0), x -> x.meanDepth(), x -> x.creditsIn(5, 9, 30), x -> x.bestExchange(0, 5, 9, 30),
            x -> x.leastSpeed(0, 5, 9, 30), x -> x.emptyIn(5, 9), x -> x.append('1'), x -> x.clearText(),
            x -> x.runText(), x -> x.undo(), x -> x.digest()};
        for (int i = 0; i < calls.length; i++) {
            Check.sentence(i + 2, CALLS);
            Object want = outcome(afterCalls(20), calls[i]);
            Check.equal("as call 512", outcome(afterCalls(511), calls[i]), want);
        }
    }

    /** No store of calls, states or bytes fills up, whatever is called 512 times. */
    private static void callsAreNotUsedUp() {
        Check.sentence(24, CALLS);
        SnowRounds x = new SnowRounds();
        for (int i = 0; i < 256; i++) {
            x.setSpread(i % 50);
            Check.equal("undo " + i, x.undo(), 0);
        }
        Check.sentence(21, CALLS);
        SnowRounds y = new SnowRounds();
        for (int i = 0; i < 256; i++) {
            Check.equal("append " + i, y.append(';'), 1);
            y.clearText();
        }
        Check.sentence(2, CALLS);
        SnowRounds z = new SnowRounds();
        for (int i = 0; i < 256; i++) {
            Check.equal("addStreet " + i, z.addStreet(10, 0), 0);
            z.undo();
        }
        Check.sentence(4, CALLS);
        SnowRounds w = Towns.streetsAndPlows(1, 0);
        for (int i = 0; i < 254; i++) {
            Check.equal("addStop " + i, w.addStop(0, 0), 1);
            w.clearRoute(0);
        }
    }

    private StateSentences() {
    }
}
