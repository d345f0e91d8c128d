import java.io.IOException;
import java.net.URL;
import java.net.URLClassLoader;
import java.nio.file.Files;
import java.nio.file.Path;
import java.util.ArrayList;
import java.util.List;
import java.util.Set;
import java.util.TreeSet;
import java.util.regex.Matcher;
import java.util.regex.Pattern;
import java.util.stream.Collectors;
import java.util.stream.Stream;
import javax.tools.JavaCompiler;
import javax.tools.ToolProvider;

/**
 * README.md: its examples are compiled and run as they stand there, and each call answers what the
 * comment behind it says; every call of the face has one; its table names every test.
 */
public final class ReadmeTest {
    private static final Pattern BLOCK = Pattern.compile("^```java\n(.*?)^```$", Pattern.MULTILINE | Pattern.DOTALL);
    /** A call alone on its line, and behind it, ahead of a colon, what it answers. */
    private static final Pattern ANSWERED = Pattern.compile("^(x\\.(\\w+)\\(.*\\)); *// (-?[0-9]+|[A-Z]+): .+$");

    private final List<String> calls = new ArrayList<>();
    private final List<Long> due = new ArrayList<>();
    private final Set<String> shown = new TreeSet<>();
    private final StringBuilder shared = new StringBuilder();
    private final StringBuilder bodies = new StringBuilder();
    private int blocks = 0;

    private ReadmeTest() {
    }

    public static void main(String[] args) throws Exception {
        String page = Files.readString(Path.of("README.md"));
        ReadmeTest read = new ReadmeTest();
        read.take(page);
        read.compare();
        read.everyCall();
        table(page);
        Check.due("it says how tests are run", page.contains("```sh\n.ci/run\n```") ? 1 : 0, 1);
        Check.due("and so they are", Files.isExecutable(Path.of(".ci/run")) ? 1 : 0, 1);
        Check.end();
    }

    /** Blocks with members stand for all that follow; each other one is run by itself. */
    private void take(String page) {
        Matcher m = BLOCK.matcher(page);
        while (m.find()) {
            if (m.group(1).startsWith("static ")) {
                shared.append(m.group(1));
            } else {
                bodies.append("static void block").append(blocks).append("() {\n");
                for (String line : m.group(1).split("\n")) {
                    bodies.append(line(line)).append('\n');
                }
                bodies.append("}\n");
                blocks++;
            }
        }
    }

    private String line(String line) {
        if (!line.contains("//")) {
            return line;
        }
        Matcher m = ANSWERED.matcher(line);
        Check.due("an answer can be read from: " + line, m.matches() ? 1 : 0, 1);
        if (!m.matches()) {
            return line;
        }
        calls.add(m.group(1));
        shown.add(m.group(2));
        due.add(number(m.group(3)));
        return "ANSWERS.add((long) " + m.group(1) + ");";
    }

    private static long number(String told) {
        switch (told) {
            case "NONE": return ChairDen.NONE;
            case "UNKNOWN": return ChairDen.UNKNOWN;
            case "OUTSIDE": return ChairDen.OUTSIDE;
            case "NOT": return ChairDen.NOT;
            case "FULL": return ChairDen.FULL;
            default:
                boolean figures = told.matches("-?[0-9]+");
                Check.due(told + " is a number or a constant", figures ? 1 : 0, 1);
                return figures ? Long.parseLong(told) : Long.MIN_VALUE;
        }
    }

    private String source() {
        StringBuilder s = new StringBuilder("public final class ReadmeExamples {\n");
        s.append("static final java.util.List<Long> ANSWERS = new java.util.ArrayList<>();\n");
        s.append(shared).append(bodies);
        s.append("public static java.util.List<Long> answers() {\nANSWERS.clear();\n");
        for (int i = 0; i < blocks; i++) {
            s.append("block").append(i).append("();\n");
        }
        return s.append("return ANSWERS;\n}\n}\n").toString();
    }

    private void compare() throws Exception {
        List<Long> got = run(source());
        Check.due("there are examples", calls.isEmpty() ? 0 : 1, 1);
        Check.due("as many answers as calls", got.size(), calls.size());
        for (int i = 0; i < got.size() && i < calls.size(); i++) {
            Check.due("README.md: " + calls.get(i), got.get(i), due.get(i));
        }
    }

    /** Compiles the class ReadmeExamples and gives its answers; none, if it does not compile. */
    private static List<Long> run(String source) throws Exception {
        JavaCompiler compiler = ToolProvider.getSystemJavaCompiler();
        Check.due("there is a compiler", compiler == null ? 0 : 1, 1);
        if (compiler == null) {
            return List.of();
        }
        Path dir = Files.createTempDirectory("readme");
        try {
            Path file = dir.resolve("ReadmeExamples.java");
            Files.writeString(file, source);
            int code = compiler.run(null, null, null, "-cp", System.getProperty("java.class.path"), "-d", dir.toString(),
                file.toString());
            Check.due("the examples of README.md compile", code, 0);
            if (code != 0) {
                return List.of();
            }
            return answers(dir);
        } finally {
            remove(dir);
        }
    }

    @SuppressWarnings("unchecked")
    private static List<Long> answers(Path dir) throws Exception {
        try (URLClassLoader loader = new URLClassLoader(new URL[] {dir.toUri().toURL()}, ReadmeTest.class.getClassLoader())) {
            return (List<Long>) loader.loadClass("ReadmeExamples").getMethod("answers").invoke(null);
        }
    }

    private static void remove(Path dir) throws IOException {
        try (Stream<Path> files = Files.list(dir)) {
            for (Path file : files.collect(Collectors.toList())) {
                Files.delete(file);
            }
        }
        Files.delete(dir);
    }

    private void everyCall() {
        for (java.lang.reflect.Method m : ChairDen.class.getDeclaredMethods()) {
            if (java.lang.reflect.Modifier.isPublic(m.getModifiers())) {
                Check.due("README.md shows an answer of " + m.getName(), shown.contains(m.getName()) ? 1 : 0, 1);
            }
        }
    }

    /** The rows of the table are the tests, each once. */
    private static void table(String page) throws IOException {
        List<String> rows = new ArrayList<>();
        Matcher m = Pattern.compile("^\\| `(\\w+Test)` \\| .+ \\|$", Pattern.MULTILINE).matcher(page);
        while (m.find()) {
            rows.add(m.group(1));
        }
        try (Stream<Path> files = Files.list(Path.of("src/test/java"))) {
            List<String> tests = files.map(f -> f.getFileName().toString()).filter(f -> f.endsWith("Test.java"))
                .map(f -> f.replace(".java", "")).sorted().collect(Collectors.toList());
            Check.due("the table of README.md names every test once: " + rows, rows.stream().sorted()
                .collect(Collectors.toList()).equals(tests) ? 1 : 0, 1);
        }
    }
}
