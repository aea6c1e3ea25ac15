/** All tests that name a sentence of the document. */
public final class SentenceTests {
    static void runAll() {
        BuildingSentences.runAll();
        SupplySentences.runAll();
        WeatherSentences.runAll();
        RoundSentences.runAll();
        ReadingSentences.runAll();
        WhatIfSentences.runAll();
        TextSentences.runAll();
        StateSentences.runAll();
        RefusalSentences.runAll();
    }

    /** Runs these tests alone and answers the sentences that do not hold; Mutants calls it. */
    public static String failed() {
        runAll();
        StringBuilder out = new StringBuilder();
        for (Check.Claim claim : Check.claims()) {
            if (claim.failed > 0) {
                out.append(claim.name()).append("; ");
            }
        }
        return out.toString();
    }

    private SentenceTests() {
    }
}
