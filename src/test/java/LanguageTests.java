import java.io.IOException;
import java.nio.charset.StandardCharsets;
import java.nio.file.Files;
import java.nio.file.Path;
import java.util.List;
import java.util.regex.Matcher;
import java.util.regex.Pattern;

/** What of ../shared/LANGUAGE.md can be seen from the lines of the program. */
final class LanguageTests {
    private static final String[] FORBIDDEN = {
        "->", "::", "\\bcatch\\b", "\\bfinally\\b", "\\bsynchronized\\b", "\\bassert\\b", "\\bprotected\\b",
        "^import ", "^package ", "Exact\\b", "\\bequals\\b", "\\bhashCode\\b", "\\btoString\\b", "\\bpublic class\\b",
        "\\bSystem\\.(?!arraycopy)", "\\bMath\\.(?!min|max)", "\\bThread\\b", "\\bnull\\b", "\\bstatic \\{",
        "\"[^\"]*\" *\\+", "\\+ *\"", "\\bfloat\\b", "\\bvar\\b", "\\bwhile \\(true\\)", "for \\(;;\\)",
    };
    private static final Pattern HEAD = Pattern.compile("^ {4,8}[a-z][\\w\\[\\] ]*\\w+\\((.*)$");

    static void runAll(String program) throws IOException {
        Check.promise(0);
        String text = Files.readString(Path.of(program), StandardCharsets.ISO_8859_1);
        for (int i = 0; i < text.length(); i++) {
            if (text.charAt(i) > 126) {
                Check.isTrue("the sign at " + i + " is plain", false);
            }
        }
        List<String> lines = text.lines().toList();
        for (int i = 0; i < lines.size(); i++) {
            String code = lines.get(i).strip().startsWith("*") || lines.get(i).strip().startsWith("/")
                    ? "" : lines.get(i);
            for (String pattern : FORBIDDEN) {
                Check.isTrue("line " + (i + 1) + " keeps off " + pattern, !Pattern.compile(pattern).matcher(code).find());
            }
        }
        shortMethods(lines);
    }

    private static void shortMethods(List<String> lines) {
        int methods = 0;
        for (int i = 0; i < lines.size(); i++) {
            Matcher head = HEAD.matcher(lines.get(i));
            if (head.find() && !lines.get(i).contains(";")) {
                methods++;
                int end = endOf(lines, i);
                Check.isTrue("the method at line " + (i + 1) + " is short", end - i < 60);
                Check.isTrue("the method at line " + (i + 1) + " takes few parameters",
                        head.group(1).split(",").length <= 7);
            }
        }
        Check.isTrue("methods are found (" + methods + ")", methods > 60);
    }

    /** The line that closes what begins at this one: a brace with the same indent. */
    private static int endOf(List<String> lines, int begin) {
        String first = lines.get(begin);
        String indent = first.substring(0, first.length() - first.stripLeading().length());
        int at = begin;
        while (at < lines.size() && !lines.get(at).equals(indent + "}")) {
            at++;
        }
        return at;
    }

    private LanguageTests() {
    }
}
