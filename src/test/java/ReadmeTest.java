import java.io.ByteArrayOutputStream;
import java.io.IOException;
import java.io.PrintStream;
import java.net.URL;
import java.net.URLClassLoader;
import java.nio.file.Files;
import java.nio.file.Path;
import java.util.Arrays;
import java.util.Comparator;
import java.util.List;
import java.util.TreeSet;
import java.util.regex.Matcher;
import java.util.regex.Pattern;
import java.util.stream.Collectors;
import java.util.stream.Stream;
import javax.tools.ToolProvider;

/** README.md: its example prints what it says, its calls are the document's, its tests are those that are here. */
final class ReadmeTest {
    private static final Pattern FACE = Pattern.compile("public (?:\\w+ )?(\\w+)\\(([^)]*)\\)(?: throws ([^;]+))?;");
    private static final Pattern PRINTED = Pattern.compile("System\\.out\\.println\\(.*\\); +// (-?\\d+)\\b");
    private static final Pattern REASON = Pattern.compile("`(\\w+Exception)` \\(([^`]*)\\)");
    private static final Pattern TEST = Pattern.compile("\\| `(\\w+Test)` \\|");

    private final String readme = Files.readString(Path.of("README.md"));
    private final String document = Files.readString(Path.of("..", "shared", "DOC.md")).replaceAll("\\s+", " ");

    private ReadmeTest() throws IOException { }

    public static void main(String[] args) throws IOException, ReflectiveOperationException {
        ReadmeTest test = new ReadmeTest();
        test.example();
        test.calls();
        test.tests();
        Check.end();
    }

    private void example() throws IOException, ReflectiveOperationException {
        String begin = "```java\n";
        int from = readme.indexOf(begin) + begin.length();
        String program = readme.substring(from, readme.indexOf("```", from));
        Path folder = Files.createTempDirectory("readme");
        try {
            Path file = Files.writeString(folder.resolve("Example.java"), program);
            int refused = ToolProvider.getSystemJavaCompiler().run(null, null, null,
                "-cp", System.getProperty("java.class.path"), "-d", folder.toString(), file.toString());
            Check.due("the example compiles", refused, 0);
            Check.due("the example", refused == 0 ? run(folder) : "", said(PRINTED, program).toString());
        } finally {
            delete(folder);
        }
    }

    /** What the class Example in that folder prints. */
    private static String run(Path folder) throws IOException, ReflectiveOperationException {
        PrintStream before = System.out;
        ByteArrayOutputStream printed = new ByteArrayOutputStream();
        try (URLClassLoader loader = new URLClassLoader(new URL[] {folder.toUri().toURL()})) {
            System.setOut(new PrintStream(printed, true));
            loader.loadClass("Example").getMethod("main", String[].class).invoke(null, (Object) new String[0]);
        } finally {
            System.setOut(before);
        }
        return Arrays.asList(printed.toString().split("\\R")).toString();
    }

    private static void delete(Path folder) throws IOException {
        try (Stream<Path> all = Files.walk(folder)) {
            for (Path one : all.sorted(Comparator.reverseOrder()).collect(Collectors.toList())) {
                Files.delete(one);
            }
        }
    }

    private static List<String> said(Pattern what, String where) {
        return what.matcher(where).results().map(m -> m.group(1)).collect(Collectors.toList());
    }

    private void calls() {
        Matcher face = FACE.matcher(document);
        int calls = 0;
        while (face.find()) {
            String name = face.group(1);
            String call = name + "(" + face.group(2).replaceAll("\\w+ (\\w+)", "$1") + ")";
            call = name.equals("OrderedTable") ? "new " + call : call;
            String row = rowOf("`" + call + "`");
            Check.due(call + " is told", row.isEmpty() ? 0 : 1, 1);
            String thrown = face.group(3) == null ? "" : face.group(3);
            Check.due(call + " throws", String.join(", ", said(REASON, row)), thrown);
            Check.due(call + " throws nothing", row.endsWith("| nothing |") ? 1 : 0, thrown.isEmpty() ? 1 : 0);
            reasons(name, row);
            calls++;
        }
        Check.due("calls of the document", calls, 21);
    }

    private String rowOf(String call) {
        return readme.lines().filter(line -> line.startsWith("| `") && line.contains(call)).findFirst().orElse("");
    }

    private void reasons(String name, String row) {
        int from = Math.max(0, document.indexOf(": " + name + " `"));
        int to = document.indexOf("## ", from);
        String promise = document.substring(from, to);
        REASON.matcher(row).results().forEach(m -> {
            String reason = m.group(1) + ": " + m.group(2) + ".";
            Check.due(name + ", " + reason, promise.contains(reason) ? 1 : 0, 1);
        });
    }

    private void tests() throws IOException {
        try (Stream<Path> files = Files.list(Path.of("src", "test", "java"))) {
            String here = files.map(file -> file.getFileName().toString()).filter(name -> name.endsWith("Test.java"))
                .map(name -> name.replace(".java", "")).sorted().collect(Collectors.toList()).toString();
            Check.due("the tests that are told", new TreeSet<>(said(TEST, readme)).toString(), here);
        }
    }
}
