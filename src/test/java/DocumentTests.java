import java.io.IOException;
import java.nio.charset.StandardCharsets;
import java.nio.file.Files;
import java.nio.file.Path;
import java.util.ArrayList;
import java.util.List;

/** Each sentence that tests name stands in the document, and each sentence of the document has tests. */
final class DocumentTests {
    /** Introductions: they say no more than the sentences that follow them. */
    private static final String[] WITHOUT_TESTS = {
        "A manager of snow clearing contracts: streets with priorities and trigger depths, plows that go round their"
                + " routes hour by hour, salt that is loaded from a store and spread, snow that melts and freezes again,"
                + " complaints with credits, accounts of salt, forecasts, better routes, and weather that is read from a"
                + " text.",
        "Temperatures are tenths of a degree.",
        "Streets.", "Salt.", "Plows.", "Weather text.", "Undo.", "Exceptions.",
        "An hour, with a temperature T and a snowfall N, goes like this:",
        "The constants:",
        "The constructor and the methods follow, a promise each: the signature, then what it does.",
    };

    /** What is left of the section of each promise; 0 is what stands before them. */
    private static final String[] REST = new String[Check.PROMISES + 1];

    static void runAll(String document) throws IOException {
        Check.promise(0);
        readSections(Files.readString(Path.of(document), StandardCharsets.UTF_8));
        List<Check.Claim> named = new ArrayList<>();
        for (Check.Claim claim : Check.claims()) {
            if (claim.isSentence()) {
                named.add(claim);
            }
        }
        // The longest ones first, so that none is taken out of the middle of another.
        named.sort((a, b) -> b.words.length() - a.words.length());
        String[] sections = REST.clone();
        for (Check.Claim claim : named) {
            Check.isTrue(claim.name() + " has checks", claim.checks > 0);
            Check.isTrue(claim.name() + " stands in the document", takeOut(claim.promise, claim.words, sections));
        }
        for (String introduction : WITHOUT_TESTS) {
            Check.isTrue("\"" + introduction + "\" stands in the document", takeOut(0, introduction, sections));
        }
        for (int promise = 0; promise < REST.length; promise++) {
            String left = REST[promise].replace('|', ' ').replace("-", " ").strip();
            Check.equal("what of section " + promise + " has no test", left, "");
        }
    }

    /** Takes the words out of the section of their promise, or else out of the first that has them. */
    private static boolean takeOut(int promise, String words, String[] sections) {
        int home = sections[promise].contains(words) ? promise : 0;
        while (home < sections.length && !sections[home].contains(words)) {
            home++;
        }
        if (home == sections.length) {
            return false;
        }
        REST[home] = REST[home].replace(words, "|");
        return true;
    }

    /** Headings, signatures, code and the rulers between groups of promises are no sentences. */
    private static void readSections(String text) {
        int section = 0;
        boolean inCode = false;
        REST[0] = "";
        for (String line : text.lines().toList()) {
            if (line.startsWith("## Not promised")) {
                return;
            }
            if (line.startsWith("```")) {
                inCode = !inCode;
            } else if (line.startsWith("## Promise ")) {
                section++;
                REST[section] = "";
            } else if (!inCode && !line.startsWith("#") && !line.startsWith("----")
                    && !(line.startsWith("`") && line.endsWith("`"))) {
                REST[section] += " " + line.strip().replaceFirst("^([-]|[1-9][.]) ", "");
            }
        }
        for (int i = 0; i < REST.length; i++) {
            REST[i] = REST[i].strip().replaceAll("\\s+", " ");
        }
    }

    private DocumentTests() {
    }
}
