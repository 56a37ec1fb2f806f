import java.io.IOException;
import java.lang.reflect.Method;
import java.net.URL;
import java.net.URLClassLoader;
import java.nio.file.Files;
import java.nio.file.Path;
import java.util.ArrayList;
import java.util.List;
import java.util.Set;
import java.util.TreeSet;
import java.util.regex.Matcher;
import java.util.regex.Pattern;
import java.util.stream.Stream;
import javax.tools.ToolProvider;

/** README.md: its example is compiled and run, its tables name each call and each test, its files are there. */
public final class ReadmeTest {
    private static final Pattern ASKED = Pattern.compile("(?:int (\\w+) = )?(x\\.\\w+\\(.*?\\));\\s+// (-?\\d+): .+");

    private ReadmeTest() { }

    /** What stands between one line and the next line that is another one, both left out. */
    private static String between(String text, String from, String to) {
        int start = text.indexOf(from);
        Check.holds(from.trim() + " stands there", start >= 0);
        int end = text.indexOf(to, start + from.length());
        Check.holds(to.trim() + " stands behind it", end >= 0);
        return start < 0 || end < 0 ? "" : text.substring(start + from.length(), end);
    }

    private static Set<String> found(String pattern, String text) {
        Set<String> found = new TreeSet<>();
        Matcher m = Pattern.compile(pattern).matcher(text);
        while (m.find()) {
            found.add(m.group(1));
        }
        return found;
    }

    // ---- the example

    private static void example(String readme) throws Exception {
        Check.group("README, the example");
        List<String> asked = new ArrayList<>();
        List<Long> dues = new ArrayList<>();
        StringBuilder body = new StringBuilder();
        for (String line : between(readme, "```java\n", "```\n").split("\n")) {
            Matcher m = ASKED.matcher(line);
            if (!m.matches()) {
                Check.holds("no answer is told in a way that is not looked at: " + line, !line.contains("//"));
                body.append(line).append('\n');
                continue;
            }
            String answer = "answers[" + asked.size() + "] = " + m.group(2) + ";\n";
            body.append(m.group(1) == null ? answer : "int " + m.group(1) + " = (int) (" + answer.replace(";", ");"));
            asked.add(m.group(2));
            dues.add(Long.valueOf(m.group(3)));
        }
        long[] answers = run(body.toString(), asked.size());
        for (int i = 0; i < asked.size(); i++) {
            Check.due(asked.get(i), answers[i], dues.get(i));
        }
        Check.holds("answers are told", asked.size() >= 10);
    }

    private static long[] run(String body, int n) throws Exception {
        Path dir = Files.createTempDirectory("readme");
        Path source = dir.resolve("Example.java");
        try {
            Files.writeString(source, "public final class Example {\npublic static long[] answers() {\n"
                    + "long[] answers = new long[" + n + "];\n" + body + "return answers;\n}\n}\n");
            int failed = ToolProvider.getSystemJavaCompiler().run(null, null, null, "-d", dir.toString(),
                    "-cp", System.getProperty("java.class.path"), source.toString());
            Check.due("javac of the example", failed, 0);
            if (failed != 0) {
                return new long[n];
            }
            try (URLClassLoader loader = new URLClassLoader(new URL[] {dir.toUri().toURL()},
                    ReadmeTest.class.getClassLoader())) {
                return (long[]) loader.loadClass("Example").getMethod("answers").invoke(null);
            }
        } finally {
            Files.deleteIfExists(dir.resolve("Example.class"));
            Files.deleteIfExists(source);
            Files.deleteIfExists(dir);
        }
    }

    // ---- the tables, the files

    private static void calls(String readme) {
        Check.group("README, the calls");
        Set<String> face = new TreeSet<>();
        for (Method m : TwoTrue.class.getDeclaredMethods()) {
            if (java.lang.reflect.Modifier.isPublic(m.getModifiers())) {
                face.add(m.getName());
            }
        }
        Set<String> named = found("`(\\w+)`", between(readme, "| for | calls |\n", "\n\n"));
        Check.holds("named " + named + ", there are " + face, named.equals(face));
    }

    private static void tests(String readme) throws IOException {
        Check.group("README, the tests");
        Set<String> there = new TreeSet<>();
        try (Stream<Path> files = Files.list(Path.of("src/test/java"))) {
            files.map(f -> f.getFileName().toString()).filter(f -> f.endsWith("Test.java"))
                    .forEach(f -> there.add(f.replace(".java", "")));
        }
        Set<String> named = found("(?m)^\\| `(\\w+)` \\|", between(readme, "| test |", "\n\n"));
        Check.holds("named " + named + ", there are " + there, named.equals(there));
    }

    private static void files(String readme) {
        Check.group("README, the files");
        for (String file : found("`([\\w./]*/[\\w./]+)`", readme)) {
            Check.holds(file + " is there", Files.exists(Path.of(file)));
        }
        Check.holds(".ci/run is named, and can be run",
                readme.contains("\n.ci/run\n") && Files.isExecutable(Path.of(".ci/run")));
    }

    public static void main(String[] args) throws Exception {
        String readme = Files.readString(Path.of("README.md"));
        example(readme);
        calls(readme);
        tests(readme);
        files(readme);
        Check.end("ReadmeTest");
    }
}
