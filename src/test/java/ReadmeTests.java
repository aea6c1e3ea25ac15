import java.lang.reflect.Method;
import java.lang.reflect.Modifier;
import java.net.URL;
import java.net.URLClassLoader;
import java.nio.charset.StandardCharsets;
import java.nio.file.Files;
import java.nio.file.Path;
import java.util.ArrayList;
import java.util.List;
import java.util.regex.Matcher;
import java.util.regex.Pattern;

/** The example of README.md answers what its comments say, and its table has every method. */
final class ReadmeTests {
    /** A comment that begins with a number tells the answer. */
    private static final Pattern ANSWER = Pattern.compile("^int (\\w+) = .*; +// (-?\\d+)\\b.*$");
    private static final String NAME = "ReadmeExample";

    static void runAll(String readme, String directory) throws Exception {
        Check.promise(0);
        List<String> lines = Files.readAllLines(Path.of(readme), StandardCharsets.UTF_8);
        namesEveryMethod(lines);
        answersAsItSays(example(lines), Path.of(directory));
    }

    private static void namesEveryMethod(List<String> lines) {
        StringBuilder table = new StringBuilder();
        for (String line : lines) {
            table.append(line.startsWith("|") ? line : "");
        }
        for (Method method : SnowRounds.class.getDeclaredMethods()) {
            if (Modifier.isPublic(method.getModifiers())) {
                Check.isTrue("the table of README.md has " + method.getName(),
                        table.indexOf("`" + method.getName() + "`") >= 0);
            }
        }
    }

    private static List<String> example(List<String> lines) {
        int begin = lines.indexOf("```java") + 1;
        int end = begin;
        while (end < lines.size() && !lines.get(end).equals("```")) {
            end++;
        }
        return lines.subList(begin, end);
    }

    private static void answersAsItSays(List<String> example, Path directory) throws Exception {
        StringBuilder program = new StringBuilder("public final class " + NAME + " { public static String told() {\n");
        program.append("StringBuilder told = new StringBuilder();\n");
        List<String> due = new ArrayList<>();
        for (String line : example) {
            program.append(line).append('\n');
            Matcher answer = ANSWER.matcher(line);
            if (answer.matches()) {
                due.add(answer.group(1) + " = " + answer.group(2));
                program.append("told.append(\"").append(answer.group(1)).append(" = \").append(")
                        .append(answer.group(1)).append(").append('\\n');\n");
            }
        }
        program.append("return told.toString(); } }\n");
        Check.isTrue("the example tells answers (" + due.size() + ")", due.size() >= 10);
        Check.equal("the example of README.md", run(program.toString(), directory), String.join("\n", due) + "\n");
    }

    private static String run(String program, Path directory) throws Exception {
        Path source = directory.resolve(NAME + ".java");
        Files.writeString(source, program, StandardCharsets.UTF_8);
        String classes = Path.of(SnowRounds.class.getProtectionDomain().getCodeSource().getLocation().toURI()).toString();
        // Called by its name, as .ci/run does it: the java that runs the tests may have no compiler inside.
        Process compiler = new ProcessBuilder("javac", "--release", "17", "-encoding", "UTF-8", "-cp", classes,
                "-d", directory.toString(), source.toString()).inheritIO().start();
        if (compiler.waitFor() != 0) {
            return "does not compile";
        }
        URL[] home = {directory.toUri().toURL()};
        try (URLClassLoader loader = new URLClassLoader(home, ReadmeTests.class.getClassLoader())) {
            return (String) loader.loadClass(NAME).getMethod("told").invoke(null);
        }
    }

    private ReadmeTests() {
    }
}
