import java.io.IOException;
import java.lang.reflect.Modifier;
import java.net.URL;
import java.net.URLClassLoader;
import java.nio.file.Files;
import java.nio.file.Path;
import java.util.ArrayList;
import java.util.List;
import java.util.Map;
import java.util.TreeSet;
import java.util.function.BiConsumer;
import java.util.regex.Matcher;
import java.util.regex.Pattern;
import java.util.stream.Stream;
import javax.tools.ToolProvider;

/** README.md: its examples are made into one program, each call with the answer that stands behind it. */
public final class ReadmeTest {
    private static final Path README = Path.of("README.md");
    private static final Pattern BLOCK = Pattern.compile("(?ms)^```java\n(.*?)^```$");
    private static final Pattern ANSWERED = Pattern.compile("(\\s*)((?:x|empty)\\.\\w+\\(.*\\));\\s*// (-?\\d+|LOST)\\b(?:, ([A-Z]+))?.*");
    private static final Pattern CALL = Pattern.compile("\\b(?:x|empty)\\.(\\w+)\\(");
    private static final Map<String, Long> NAMES = Map.of("UNKNOWN", -1L, "OUTSIDE", -2L, "STATE", -3L, "FULL", -4L, "NONE", -9L,
        "NULL", -11L, "CAST", -12L, "INDEX", -13L, "SIZE", -14L);
    private static final int MOST_CALLS = 512;

    private record Example(String call, long due) {
    }

    private final Check check;
    private final List<Example> examples = new ArrayList<>();
    private final boolean[] asked = new boolean[MOST_CALLS];
    private int answers;

    private ReadmeTest(Check check) {
        this.check = check;
    }

    public static void main(String[] args) throws Exception {
        Check check = new Check("ReadmeTest");
        String page = Files.readString(README);
        new ReadmeTest(check).examples(page);
        allOfTheFace(check, page);
        allTests(check, page);
        check.end();
    }

    private static String codeOf(String page) {
        StringBuilder code = new StringBuilder();
        Matcher block = BLOCK.matcher(page);
        while (block.find()) {
            code.append(block.group(1));
        }
        return code.toString();
    }

    private void examples(String page) throws Exception {
        StringBuilder body = new StringBuilder();
        for (String line : codeOf(page).split("\n")) {
            body.append(asProgram(line)).append('\n');
        }
        check.holds("README.md has examples, some and not too many: " + examples.size(),
            examples.size() >= 27 && examples.size() < MOST_CALLS);
        run("public final class ReadmeExamples {\n"
            + "public static void run(java.util.function.BiConsumer<Integer, Long> answered) {\n" + body + "}\n}\n");
        for (int k = 0; k < examples.size(); k++) {
            check.holds("README.md: " + examples.get(k).call() + " is called", asked[k]);
        }
        check.holds("README.md: an object is used for " + MOST_CALLS + " calls at most, got " + answers, answers <= MOST_CALLS);
    }

    /** A line as it stands; if it is a call with its answer told, it hands on what it answers. */
    private String asProgram(String line) {
        Matcher answered = ANSWERED.matcher(line);
        if (!answered.matches()) {
            // Loops and rows are no calls; a call in vain, until there are enough, has no answer told.
            check.holds("README.md tells an answer: " + line, !CALL.matcher(line).find() || line.matches(" {4}.*|while .*"));
            return line;
        }
        long due = answered.group(3).equals("LOST") ? PoleBehind.LOST : Long.parseLong(answered.group(3));
        if (answered.group(4) != null) {
            check.due("README.md: the number of " + answered.group(4), due, NAMES.getOrDefault(answered.group(4), 0L));
        }
        examples.add(new Example(answered.group(2), due));
        return "answered.accept(" + (examples.size() - 1) + ", (long) " + answered.group(2) + ");";
    }

    private void run(String source) throws Exception {
        Path folder = Files.createTempDirectory("readme");
        Path file = folder.resolve("ReadmeExamples.java");
        Files.writeString(file, source);
        int exit = ToolProvider.getSystemJavaCompiler().run(null, null, null, "-cp", System.getProperty("java.class.path"),
            "-d", folder.toString(), file.toString());
        check.due("compiling the examples of README.md", exit, 0);
        if (exit == 0) {
            BiConsumer<Integer, Long> answered = this::answered;
            try (URLClassLoader loader = new URLClassLoader(new URL[] {folder.toUri().toURL()})) {
                loader.loadClass("ReadmeExamples").getMethod("run", BiConsumer.class).invoke(null, answered);
            }
        }
        throwAway(folder);
    }

    private void answered(int example, long answer) {
        answers++;
        asked[example] = true;
        check.due("README.md: " + examples.get(example).call(), answer, examples.get(example).due());
    }

    private static void throwAway(Path folder) throws IOException {
        try (Stream<Path> files = Files.list(folder)) {
            for (Path file : files.toList()) {
                Files.delete(file);
            }
        }
        Files.delete(folder);
    }

    private static void allOfTheFace(Check check, String page) {
        TreeSet<String> called = new TreeSet<>();
        Matcher call = CALL.matcher(codeOf(page));
        while (call.find()) {
            called.add(call.group(1));
        }
        for (var method : PoleBehind.class.getDeclaredMethods()) {
            if (Modifier.isPublic(method.getModifiers())) {
                check.holds("README.md has an example of " + method.getName(), called.contains(method.getName()));
            }
        }
        for (var field : PoleBehind.class.getFields()) {
            check.holds("README.md names " + field.getName(), page.contains("`" + field.getName() + "`"));
        }
    }

    private static void allTests(Check check, String page) throws IOException {
        try (Stream<Path> files = Files.list(Path.of("src/test/java"))) {
            for (Path file : files.toList()) {
                String name = file.getFileName().toString().replace(".java", "");
                check.holds("README.md names " + name, !name.endsWith("Test") || page.contains("`" + name + "`"));
            }
        }
    }
}
