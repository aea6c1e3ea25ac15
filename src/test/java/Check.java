import java.util.ArrayList;
import java.util.List;
import java.util.Objects;
import java.util.function.IntConsumer;

/** Counts checks by promise and by sentence of the document, and prints those that fail. */
final class Check {
    static final int PROMISES = 25;
    static final Class<IllegalArgumentException> ARGUMENT = IllegalArgumentException.class;
    static final Class<IllegalStateException> STATE = IllegalStateException.class;
    static final Class<IndexOutOfBoundsException> INDEX = IndexOutOfBoundsException.class;

    /** What checks belong to: words of the document that a promise keeps, or a promise as a whole. */
    static final class Claim {
        final int promise;
        final String words;
        int checks;
        int failed;

        private Claim(int promise, String words) {
            this.promise = promise;
            this.words = words;
        }

        boolean isSentence() {
            return !words.isEmpty();
        }

        String name() {
            return "promise " + promise + (isSentence() ? ", \"" + words + "\"" : "");
        }
    }

    private static final List<Claim> CLAIMS = new ArrayList<>();
    private static Claim current = claim(0, "");

    /** The checks that follow belong to this promise; 0 is what belongs to none of them alone. */
    static void promise(int number) {
        current = claim(number, "");
    }

    /** The checks that follow would fail if this sentence were broken where the promise rests on it. */
    static void sentence(int promise, String words) {
        current = claim(promise, words);
    }

    /** Runs each test; one that throws fails, and the others go on. */
    static void each(Runnable... tests) {
        for (Runnable test : tests) {
            try {
                test.run();
            } catch (RuntimeException e) {
                current.checks++;
                fail("the test ended with " + e + " at " + (e.getStackTrace().length > 0 ? e.getStackTrace()[0] : "?"));
            }
        }
    }

    private static Claim claim(int promise, String words) {
        for (Claim known : CLAIMS) {
            if (known.promise == promise && known.words.equals(words)) {
                return known;
            }
        }
        Claim added = new Claim(promise, words);
        CLAIMS.add(added);
        return added;
    }

    static List<Claim> claims() {
        return CLAIMS;
    }

    static void equal(String what, Object got, Object want) {
        current.checks++;
        if (!Objects.equals(got, want)) {
            fail(what + " answered " + got + ", due is " + want);
        }
    }

    static void isTrue(String what, boolean holds) {
        equal(what, holds, true);
    }

    /** The call throws exactly this and changes nothing that can be read. */
    static void refused(String what, SnowRounds x, Class<? extends RuntimeException> wanted, Runnable call) {
        String before = Snapshot.of(x);
        Class<?> got = thrownBy(call);
        equal(what + " throws", got == null ? "nothing" : got.getName(), wanted.getName());
        equal(what + " leaves the state", Snapshot.of(x), before);
    }

    /** The call is refused with each of these numbers, and with those at the ends of int. */
    static void refusedWith(String what, int[] numbers, SnowRounds x, Class<? extends RuntimeException> wanted,
            IntConsumer call) {
        for (int number : numbers) {
            refused(what + " " + number, x, wanted, () -> call.accept(number));
        }
        refused(what + " " + Integer.MIN_VALUE, x, wanted, () -> call.accept(Integer.MIN_VALUE));
        refused(what + " " + Integer.MAX_VALUE, x, wanted, () -> call.accept(Integer.MAX_VALUE));
    }

    static Class<?> thrownBy(Runnable call) {
        try {
            call.run();
            return null;
        } catch (RuntimeException e) {
            return e.getClass();
        }
    }

    /** The call saves one state, and undo brings back all that was before it but the text. */
    static void undoable(String what, SnowRounds x, Runnable call) {
        String before = Snapshot.state(x);
        int saved = Snapshot.savedStates(x);
        call.run();
        equal(what + ": saved states", Snapshot.savedStates(x), Math.min(saved + 1, 4));
        equal(what + ": undo", x.undo(), Math.min(saved, 3));
        equal(what + ": state after undo", Snapshot.state(x), before);
    }

    /** The call changes nothing that can be read; it does not save a state either. */
    static void changesNothing(String what, SnowRounds x, Runnable call) {
        String before = Snapshot.of(x);
        call.run();
        equal(what + " changes nothing", Snapshot.of(x), before);
    }

    static int failures() {
        int failed = 0;
        for (Claim claim : CLAIMS) {
            failed += claim.failed;
        }
        return failed;
    }

    static int checks(int promise) {
        int checks = 0;
        for (Claim claim : CLAIMS) {
            checks += claim.promise == promise ? claim.checks : 0;
        }
        return checks;
    }

    private static void fail(String text) {
        current.failed++;
        System.out.println(current.name() + ": " + text);
    }

    private Check() {
    }
}
