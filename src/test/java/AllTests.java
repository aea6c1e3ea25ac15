/** Runs the project's own tests; ends with exit code 1 if a check fails or a promise has none. */
public final class AllTests {
    /** Takes the paths of the program, of the document and of the README, and a directory to write to. */
    public static void main(String[] args) throws Exception {
        if (args.length != 4) {
            System.out.println("usage: AllTests SnowRounds.java DOC.md README.md directory");
            System.exit(1);
        }
        SentenceTests.runAll();
        Check.each(BuildingTests::runAll, HourTests::runAll, ReadingTests::runAll, WhatIfTests::runAll,
                TextTests::runAll, StateTests::runAll, FaceTests::runAll, RoomTests::runAll, ModelTests::runAll);
        LanguageTests.runAll(args[0]);
        DocumentTests.runAll(args[1]);
        ReadmeTests.runAll(args[2], args[3]);
        report();
    }

    private static void report() {
        int checks = Check.checks(0);
        int without = 0;
        for (int promise = 1; promise <= Check.PROMISES; promise++) {
            checks += Check.checks(promise);
            if (Check.checks(promise) == 0) {
                without++;
                System.out.println("promise " + promise + " has no test");
            }
        }
        int sentences = 0;
        for (Check.Claim claim : Check.claims()) {
            sentences += claim.isSentence() ? 1 : 0;
        }
        int failed = Check.failures();
        System.out.println("own checks: " + (checks - failed) + " hold, " + failed + " do not; " + sentences
                + " sentences of promises have tests");
        if (failed + without > 0) {
            System.exit(1);
        }
    }

    private AllTests() {
    }
}
