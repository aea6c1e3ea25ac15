import java.util.Objects;

/** Counts checks by promise and prints those that fail. */
final class Check {
    static final int PROMISES = 25;
    private static final int[] CHECKS = new int[PROMISES + 1];
    private static int promise = 0;
    private static int failed = 0;

    /** The checks that follow belong to this promise; 0 is what belongs to none of them alone. */
    static void promise(int number) {
        promise = number;
    }

    static void equal(String what, Object got, Object want) {
        CHECKS[promise]++;
        if (!Objects.equals(got, want)) {
            fail(what + " answered " + got + ", due is " + want);
        }
    }

    static void isTrue(String what, boolean holds) {
        equal(what, holds, true);
    }

    /** The call throws exactly this and changes nothing that can be read. */
    static void refused(String what, SnowRounds x, Class<? extends RuntimeException> wanted, Runnable call) {
        String before = Snapshot.of(x);
        Class<?> got = thrownBy(call);
        equal(what + " throws", got == null ? "nothing" : got.getName(), wanted.getName());
        equal(what + " leaves the state", Snapshot.of(x), before);
    }

    static Class<?> thrownBy(Runnable call) {
        try {
            call.run();
            return null;
        } catch (RuntimeException e) {
            return e.getClass();
        }
    }

    /** The call saves one state, and undo brings back all that was before it but the text. */
    static void undoable(String what, SnowRounds x, Runnable call) {
        String before = Snapshot.state(x);
        int saved = Snapshot.savedStates(x);
        call.run();
        equal(what + ": saved states", Snapshot.savedStates(x), Math.min(saved + 1, 4));
        equal(what + ": undo", x.undo(), Math.min(saved, 3));
        equal(what + ": state after undo", Snapshot.state(x), before);
    }

    /** The call changes nothing that can be read; it does not save a state either. */
    static void changesNothing(String what, SnowRounds x, Runnable call) {
        String before = Snapshot.of(x);
        call.run();
        equal(what + " changes nothing", Snapshot.of(x), before);
    }

    static int failures() {
        return failed;
    }

    static int checks(int number) {
        return CHECKS[number];
    }

    private static void fail(String text) {
        failed++;
        System.out.println("promise " + promise + ": " + text);
    }

    private Check() {
    }
}
