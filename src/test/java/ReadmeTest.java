import java.io.IOException;
import java.lang.reflect.Method;
import java.lang.reflect.Modifier;
import java.net.URL;
import java.net.URLClassLoader;
import java.nio.file.Files;
import java.nio.file.Path;
import java.util.Comparator;
import java.util.List;
import java.util.regex.Matcher;
import java.util.regex.Pattern;
import java.util.stream.Stream;
import javax.tools.ToolProvider;

/** README.md says how to use the class and how to run its tests; run from the project's root, as .ci/run does. */
public final class ReadmeTest {
    private static final Check CHECK = new Check("readme");
    private static final Pattern EXAMPLE = Pattern.compile("(?s)```java\n(.*?)```");
    /** A call with the answer that the page tells behind it. */
    private static final Pattern ANSWER = Pattern.compile("(?m)^ +((?:x\\.|tell\\().*\\)); +// (-?\\w+).*$");
    private static int told;

    public static void main(String[] args) throws Exception {
        Path page = Path.of("README.md");
        CHECK.same("README.md is there", Files.isRegularFile(page), true);
        String text = Files.isRegularFile(page) ? Files.readString(page) : "";
        String use = part(text, "## Use");
        tellsOfUse(use);
        tellsOfTests(part(text, "## Tests"));
        runExample(use);
        CHECK.end();
    }

    /** What stands under a head, up to the next one. */
    private static String part(String text, String head) {
        int from = text.indexOf(head + "\n");
        CHECK.same("README.md has " + head, from >= 0, true);
        if (from < 0) {
            return "";
        }
        int to = text.indexOf("\n## ", from);
        return text.substring(from, to < 0 ? text.length() : to);
    }

    private static void tellsOfUse(String use) {
        names(use, "javac -d out src/main/java/BarberMinutes.java");
        for (Method m : BarberMinutes.class.getDeclaredMethods()) {
            if (Modifier.isPublic(m.getModifiers())) {
                names(use, "`" + m.getName() + "`");
            }
        }
        for (int trouble = 0; trouble <= 6; trouble++) {
            names(use, "\n| " + trouble + " | ");
        }
        names(use, "`NONE`");
        names(use, "NoSuchElementException");
        names(use, "512 calls");
    }

    private static void tellsOfTests(String tests) throws IOException {
        names(tests, "\n.ci/run\n");
        names(tests, "../shared/tests");
        CHECK.same(".ci/run can be run", Files.isExecutable(Path.of(".ci/run")), true);
        try (Stream<Path> files = Files.list(Path.of("src/test/java"))) {
            List<String> found = files.map(f -> f.getFileName().toString()).filter(f -> f.endsWith("Test.java")).toList();
            CHECK.same("tests are found", found.contains("ReadmeTest.java"), true);
            for (String file : found) {
                names(tests, file);
            }
        }
    }

    private static void names(String text, String what) {
        CHECK.same("README.md names " + what.strip(), text.contains(what), true);
    }

    private static void runExample(String use) throws Exception {
        Matcher block = EXAMPLE.matcher(use);
        boolean found = block.find();
        CHECK.same("README.md has an example", found, true);
        if (!found) {
            return;
        }
        // a text block, as a call may hold a text itself
        String asking = ANSWER.matcher(block.group(1)).replaceAll("ReadmeTest.due(\"\"\"\n$1\"\"\", $1, \"$2\");");
        Path out = Files.createTempDirectory("readme");
        try {
            run(asking, out);
        } finally {
            remove(out);
        }
        CHECK.same("the example tells answers", told >= 20, true);
    }

    private static void run(String source, Path out) throws Exception {
        Path file = out.resolve("Example.java");
        Files.writeString(file, source);
        int failed = ToolProvider.getSystemJavaCompiler().run(null, null, null,
            "-cp", System.getProperty("java.class.path"), "-d", out.toString(), file.toString());
        CHECK.same("the example compiles", failed, 0);
        if (failed == 0) {
            try (URLClassLoader loader = new URLClassLoader(new URL[] {out.toUri().toURL()})) {
                Method main = loader.loadClass("Example").getMethod("main", String[].class);
                main.invoke(null, (Object) new String[0]);
            }
        }
    }

    private static void remove(Path directory) throws IOException {
        try (Stream<Path> files = Files.walk(directory)) {
            for (Path file : files.sorted(Comparator.reverseOrder()).toList()) {
                Files.delete(file);
            }
        }
    }

    /** Asked by the example, each of whose calls is written round with this one. */
    public static void due(String call, Object got, String want) {
        told++;
        CHECK.same("README.md's " + call, String.valueOf(got), want);
    }
}
