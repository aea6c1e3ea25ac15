import java.io.File;
import java.io.IOException;
import java.io.OutputStream;
import java.io.PrintStream;
import java.io.StringWriter;
import java.net.URI;
import java.net.URL;
import java.net.URLClassLoader;
import java.nio.file.Files;
import java.nio.file.Path;
import java.util.ArrayList;
import java.util.Comparator;
import java.util.List;
import java.util.concurrent.Callable;
import java.util.concurrent.ExecutorService;
import java.util.concurrent.Executors;
import java.util.concurrent.Future;
import java.util.regex.Matcher;
import java.util.regex.Pattern;
import java.util.stream.Stream;
import javax.tools.JavaCompiler;
import javax.tools.JavaFileObject;
import javax.tools.SimpleJavaFileObject;
import javax.tools.StandardJavaFileManager;
import javax.tools.ToolProvider;

/**
 * Breaks the program in one place at a time, and tells which breaks no sentence test sees. Those
 * that stand in same.txt, because they change no answer, are only counted.
 */
public final class Mutants {
    private static final String[][] SWAPS = {
        {"<=", "<"}, {">=", ">"}, {" < ", " <= "}, {" > ", " >= "}, {"==", "!="}, {"!=", "=="}, {"&&", "||"},
        {"||", "&&"}, {" + ", " - "}, {" - ", " + "}, {"+=", "-="}, {"-=", "+="}, {" * ", " + "}, {" / ", " * "},
        {"Math.min", "Math.max"}, {"Math.max", "Math.min"}, {"return true", "return false"},
        {"return false", "return true"}, {"? 1 : 0", "? 0 : 1"}, {" !", " "}, {"(!", "("}, {"-temp", "temp"},
        {"return -", "return "}, {"(long) ", ""}, {"++;", "--;"}, {"--;", "++;"},
        {"'0'", "'/'"}, {"'0'", "'1'"}, {"'9'", "'8'"}, {"'9'", "':'"},
    };
    private static final Pattern NUMBER = Pattern.compile("(?<![\\w.])\\d+(?!\\w)");
    private static final Pattern STATEMENT = Pattern.compile("^ ++(?!return|final|private|int |long |boolean "
            + "|[A-Z]\\w+ \\w+ =|throw|break|case)[^{}]*;$");

    private static final Pattern CLASS = Pattern.compile("^(?: {4})?[a-z ]* class (\\w+) \\{$");
    private static final Pattern METHOD = Pattern.compile("^(?: {4}| {8})(?:[a-zA-Z]\\w*(?:\\[])? )*(\\w+)\\([^;]*$");

    private static final String NO_PROGRAM = "does not compile";

    private record Mutant(int line, String where, String was, String is, String program) {
        String told() {
            return where + ": " + was.strip() + "  =>  " + is.strip();
        }
    }

    /** Takes the program, the directory of the tests' classes, same.txt, and "all" to tell what saw each break. */
    public static void main(String[] args) throws Exception {
        List<String> lines = Files.readAllLines(Path.of(args[0]));
        List<String> same = Files.readAllLines(Path.of(args[2]));
        List<Mutant> mutants = mutants(lines);
        PrintStream out = System.out;
        System.setOut(new PrintStream(OutputStream.nullOutputStream()));
        ExecutorService workers = Executors.newFixedThreadPool(Runtime.getRuntime().availableProcessors());
        List<Future<String>> answers = new ArrayList<>();
        for (Mutant mutant : mutants) {
            answers.add(workers.submit((Callable<String>) () -> run(mutant, args[1])));
        }
        int seen = 0;
        int known = 0;
        int unseen = 0;
        int noPrograms = 0;
        for (int i = 0; i < mutants.size(); i++) {
            Mutant mutant = mutants.get(i);
            String answer = answers.get(i).get();
            if (answer.equals("unseen") && same.contains(mutant.told())) {
                known++;
            } else if (answer.equals("unseen")) {
                unseen++;
                out.println("UNSEEN line " + mutant.line() + ": " + mutant.told());
            } else if (answer.equals(NO_PROGRAM)) {
                noPrograms++;
            } else {
                seen++;
                if (args.length > 3) {
                    out.println("line " + mutant.line() + ": " + mutant.told() + "\n    " + answer);
                }
            }
        }
        workers.shutdown();
        out.println((mutants.size() - noPrograms) + " breaks that compile: " + seen + " seen, " + known + " that change no answer, " + unseen
                + " unseen");
        System.exit(unseen == 0 ? 0 : 1);
    }

    private static List<Mutant> mutants(List<String> lines) {
        List<Mutant> all = new ArrayList<>();
        for (int i = 0; i < lines.size(); i++) {
            String line = lines.get(i);
            if (line.strip().startsWith("*") || line.strip().startsWith("/") || line.contains("throw new")) {
                continue;
            }
            for (String[] swap : SWAPS) {
                for (int at = line.indexOf(swap[0]); at >= 0; at = line.indexOf(swap[0], at + 1)) {
                    add(all, lines, i, line.substring(0, at) + swap[1] + line.substring(at + swap[0].length()));
                }
            }
            Matcher number = NUMBER.matcher(line);
            while (number.find()) {
                long value = Long.parseLong(number.group());
                for (long other : new long[] {value - 1, value + 1}) {
                    add(all, lines, i, line.substring(0, number.start()) + other + line.substring(number.end()));
                }
            }
            boolean begins = i == 0 || lines.get(i - 1).endsWith("{") || lines.get(i - 1).endsWith("}")
                    || lines.get(i - 1).endsWith(";") || lines.get(i - 1).isBlank();
            if (begins && STATEMENT.matcher(line).find()) {
                add(all, lines, i, " ;");
            }
        }
        return all;
    }

    private static void add(List<Mutant> all, List<String> lines, int at, String broken) {
        List<String> copy = new ArrayList<>(lines);
        copy.set(at, broken);
        String where = nameAbove(CLASS, lines, at) + "." + nameAbove(METHOD, lines, at);
        all.add(new Mutant(at + 1, where, lines.get(at), broken, String.join("\n", copy)));
    }

    private static String nameAbove(Pattern pattern, List<String> lines, int from) {
        for (int i = from; i >= 0; i--) {
            Matcher matcher = pattern.matcher(lines.get(i));
            if (matcher.find()) {
                return matcher.group(1);
            }
        }
        return "";
    }

    /** Answers "unseen", or what saw the break. */
    private static String run(Mutant mutant, String tests) throws Exception {
        Path classes = Files.createTempDirectory("mutant");
        try {
            if (!compiles(mutant.program(), classes)) {
                return NO_PROGRAM;
            }
            URL[] path = {classes.toUri().toURL(), new File(tests).toURI().toURL()};
            try (URLClassLoader loader = new URLClassLoader(path, ClassLoader.getPlatformClassLoader())) {
                return answerWithin(60_000, loader);
            }
        } finally {
            delete(classes);
        }
    }

    /** Some breaks make loops that do not end; only stopping the thread gets out of them. */
    @SuppressWarnings("removal")
    private static String answerWithin(int milliseconds, ClassLoader loader) throws InterruptedException {
        String[] answer = {"does not end"};
        Thread thread = new Thread(() -> {
            try {
                String failed = (String) loader.loadClass("SentenceTests").getMethod("failed").invoke(null);
                answer[0] = failed.isEmpty() ? "unseen" : failed;
            } catch (ReflectiveOperationException e) {
                answer[0] = "ended with " + e;
            }
        });
        thread.setDaemon(true);
        thread.start();
        thread.join(milliseconds);
        String told = answer[0];
        if (thread.isAlive()) {
            thread.stop();
        }
        return told;
    }

    private static boolean compiles(String program, Path classes) throws IOException {
        JavaCompiler compiler = ToolProvider.getSystemJavaCompiler();
        JavaFileObject source = new SimpleJavaFileObject(URI.create("string:///SnowRounds.java"),
                JavaFileObject.Kind.SOURCE) {
            @Override
            public CharSequence getCharContent(boolean ignore) {
                return program;
            }
        };
        try (StandardJavaFileManager files = compiler.getStandardFileManager(null, null, null)) {
            return compiler.getTask(new StringWriter(), files, null, List.of("-d", classes.toString(), "-nowarn"), null,
                    List.of(source)).call();
        }
    }

    private static void delete(Path directory) throws IOException {
        try (Stream<Path> all = Files.walk(directory)) {
            for (Path path : all.sorted(Comparator.reverseOrder()).toList()) {
                Files.delete(path);
            }
        }
    }

    private Mutants() {
    }
}
