/** Runs the project's own tests; ends with exit code 1 if a check fails or a promise has none. */
public final class AllTests {
    public static void main(String[] args) throws Exception {
        BuildingTests.runAll();
        HourTests.runAll();
        ReadingTests.runAll();
        WhatIfTests.runAll();
        TextTests.runAll();
        StateTests.runAll();
        FaceTests.runAll();
        RoomTests.runAll();
        ModelTests.runAll();
        if (args.length > 0) {
            LanguageTests.runAll(args[0]);
        }
        report();
    }

    private static void report() {
        int checks = Check.checks(0);
        int without = 0;
        for (int promise = 1; promise <= Check.PROMISES; promise++) {
            checks += Check.checks(promise);
            if (Check.checks(promise) == 0) {
                without++;
                System.out.println("promise " + promise + " has no test");
            }
        }
        int failed = Check.failures();
        System.out.println("own checks: " + (checks - failed) + " hold, " + failed + " do not");
        if (failed + without > 0) {
            System.exit(1);
        }
    }
}
