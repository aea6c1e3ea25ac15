/**
 * Runs of 512 calls with arguments of all kinds, each call answered by the program and by
 * PlainModel. The arguments come from a counter that is mixed, so that each run of the tests
 * makes the same calls.
 */
final class ModelTests {
    private static final int RUNS = 400;
    private static final int CALLS = 512;
    private static final String SIGNS = "0123456789-,;x";
    private static final String[] ITEMS = {"5,9x1;", "-10,20;", "0,0x99;", "300,100;", "-300,0x12;", "12,30x3;",
        "-0,00x05;", "301,0;", "3,101;", "1,1x0;", "1,1x100;", "-", "1,", "7,7", "2,2x", "1234", "-45,18x7;",
        "0,20x4;", "33,0x2;"};

    private static final class Dice {
        private long state;

        Dice(long seed) {
            state = seed * 0x9E3779B97F4A7C15L + 12345;
        }

        int below(int bound) {
            state = state * 6364136223846793005L + 1442695040888963407L;
            return (int) ((state >>> 33) % bound);
        }

        /** Mostly a number of the range; sometimes one of its ends, or one outside. */
        int of(int least, int most) {
            switch (below(20)) {
                case 0:
                    return least;
                case 1:
                    return most;
                case 2:
                    return below(4) > 0 ? least + below(most - least + 1) : least - 1;
                case 3:
                    return below(4) > 0 ? least + below(most - least + 1) : most + 1;
                case 4:
                    return below(12) > 0 ? least + below(most - least + 1) : Integer.MIN_VALUE;
                case 5:
                    return below(12) > 0 ? least + below(most - least + 1) : Integer.MAX_VALUE;
                default:
                    return least + below(most - least + 1);
            }
        }
    }

    private interface Call {
        long answer();
    }

    private SnowRounds x = new SnowRounds();
    private PlainModel y = new PlainModel();
    private final Dice dice;
    private final boolean reachesTheLastHour;
    private int a;
    private int b;
    private int c;
    private int d;

    private ModelTests(int seed) {
        dice = new Dice(seed);
        reachesTheLastHour = seed % 4 == 0;
    }

    static void runAll() {
        Check.promise(0);
        for (int seed = 1; seed <= RUNS; seed++) {
            new ModelTests(seed).runOne(seed);
        }
    }

    private void runOne(int seed) {
        for (int call = 0; call < CALLS; call++) {
            int kind = call < 40 ? startKind() : dice.below(100);
            a = 0;
            Object[] both = callOne(kind, call);
            String where = "run " + seed + ", call " + call + " of kind " + kind + " (" + a + ", " + b + ", " + c
                    + ", " + d + ")";
            if (!both[0].equals(both[1])) {
                Check.equal(where, both[0], both[1]);
                return;
            }
            if (x.digest() != y.digest() || x.meanDepth() != y.meanDepth()) {
                Check.equal(where + ": digest", x.digest(), y.digest());
                Check.equal(where + ": mean depth", x.meanDepth(), y.meanDepth());
                return;
            }
        }
        Check.isTrue("run " + seed, true);
    }

    private int startKind() {
        int[] kinds = {0, 0, 5, 8, 8, 8, 8, 21, 24};
        return kinds[dice.below(kinds.length)];
    }

    private static Object outcome(Call call) {
        try {
            return call.answer();
        } catch (RuntimeException e) {
            return e.getClass().getName();
        }
    }

    private static Object[] both(Call program, Call model) {
        return new Object[] {outcome(program), outcome(model)};
    }

    private int plowNumber() {
        return dice.of(0, Math.max(0, y.value(2) - 1));
    }

    private int streetNumber() {
        return dice.of(0, Math.max(0, y.value(1) - 1));
    }

    private Object[] callOne(int kind, int call) {
        if (kind < 34) {
            return changeOne(kind);
        }
        if (kind < 50) {
            return passOne(kind);
        }
        if (kind < 62) {
            return askOne(kind);
        }
        if (kind < 80) {
            return readOne(kind);
        }
        return writeOne(kind, call);
    }

    private Object[] changeOne(int kind) {
        if (kind < 5) {
            a = dice.below(3) > 0 ? 10 + dice.below(400) : dice.of(10, 2000);
            b = dice.of(0, 2);
            return both(() -> x.addStreet(a, b), () -> y.addStreet(a, b));
        }
        if (kind < 8) {
            a = dice.below(3) > 0 ? 100 + dice.below(900) : dice.of(100, 5000);
            b = dice.below(3) > 0 ? dice.below(20) : dice.of(0, 5000);
            return both(() -> x.addPlow(a, b), () -> y.addPlow(a, b));
        }
        if (kind < 16) {
            a = plowNumber();
            b = streetNumber();
            return both(() -> x.addStop(a, b), () -> y.addStop(a, b));
        }
        if (kind < 17) {
            a = plowNumber();
            return both(() -> x.clearRoute(a), () -> y.clearRoute(a));
        }
        if (kind < 21) {
            a = plowNumber();
            b = dice.of(0, 10);
            return both(() -> x.exchange(a, b), () -> y.exchange(a, b));
        }
        if (kind < 24) {
            a = dice.of(0, 2);
            b = dice.below(2) > 0 ? 1 + dice.below(60) : dice.of(1, 200);
            c = dice.below(2) > 0 ? 1 + dice.below(6) : dice.of(1, 48);
            d = dice.of(0, 1000);
            return both(() -> x.setTerms(a, b, c, d), () -> y.setTerms(a, b, c, d));
        }
        if (kind < 26) {
            a = dice.of(0, 50);
            return both(() -> x.setSpread(a), () -> y.setSpread(a));
        }
        if (kind < 28) {
            a = dice.below(3) > 0 ? dice.below(500) : dice.of(0, 100000);
            return both(() -> x.deliver(a), () -> y.deliver(a));
        }
        return both(() -> x.undo(), () -> y.undo());
    }

    private Object[] passOne(int kind) {
        a = dice.below(2) > 0 ? dice.below(80) - 40 : dice.of(-300, 300);
        b = dice.below(3) > 0 ? dice.below(12) : dice.of(0, 100);
        c = dice.below(4) > 0 && !reachesTheLastHour ? dice.below(8) : dice.of(0, 100);
        return both(() -> x.run(a, b, c), () -> y.run(a, b, c));
    }

    private Object[] askOne(int kind) {
        a = plowNumber();
        b = dice.below(2) > 0 ? dice.below(80) - 40 : dice.of(-300, 300);
        c = dice.below(3) > 0 ? dice.below(12) : dice.of(0, 100);
        d = dice.below(2) > 0 ? dice.below(12) : dice.of(0, 50);
        if (kind < 53) {
            d = dice.of(0, 100);
            return both(() -> x.creditsIn(b, c, d), () -> y.creditsIn(b, c, d));
        }
        if (kind < 57) {
            return both(() -> x.bestExchange(a, b, c, d), () -> y.bestExchange(a, b, c, d));
        }
        if (kind < 60) {
            return both(() -> x.leastSpeed(a, b, c, d), () -> y.leastSpeed(a, b, c, d));
        }
        return both(() -> x.emptyIn(b, c), () -> y.emptyIn(b, c));
    }

    private Object[] readOne(int kind) {
        switch (kind % 5) {
            case 0:
                a = dice.of(0, 9);
                return both(() -> x.value(a), () -> y.value(a));
            case 1:
                a = streetNumber();
                b = dice.of(0, 8);
                return both(() -> x.street(a, b), () -> y.street(a, b));
            case 2:
                a = plowNumber();
                b = dice.of(0, 7);
                return both(() -> x.plow(a, b), () -> y.plow(a, b));
            case 3:
                a = plowNumber();
                b = dice.of(0, 11);
                return both(() -> x.stop(a, b), () -> y.stop(a, b));
            default:
                a = dice.of(0, 2);
                b = dice.of(0, 3);
                return both(() -> x.terms(a, b), () -> y.terms(a, b));
        }
    }

    /** The text is written an item at a time, so that some of them are right. */
    private Object[] writeOne(int kind, int call) {
        if (kind < 88) {
            String item = ITEMS[dice.below(ITEMS.length)];
            for (int i = 0; i < item.length() - 1; i++) {
                a = item.charAt(i);
                Object[] first = both(() -> x.append(a), () -> y.append(a));
                if (!first[0].equals(first[1])) {
                    return first;
                }
            }
            a = item.charAt(item.length() - 1);
            return both(() -> x.append(a), () -> y.append(a));
        }
        if (kind < 90) {
            a = dice.below(4) > 0 ? SIGNS.charAt(dice.below(SIGNS.length())) : dice.of(0, 127);
            return both(() -> x.append(a), () -> y.append(a));
        }
        if (kind < 94) {
            return both(() -> x.clearText(), () -> y.clearText());
        }
        return both(() -> x.runText(), () -> y.runText());
    }
}
