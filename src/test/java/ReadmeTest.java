import java.lang.reflect.Method;
import java.lang.reflect.Modifier;
import java.net.URL;
import java.net.URLClassLoader;
import java.nio.file.DirectoryStream;
import java.nio.file.Files;
import java.nio.file.Path;
import java.util.Comparator;
import java.util.List;
import java.util.regex.Matcher;
import java.util.regex.Pattern;
import java.util.stream.Stream;

/** README.md: its examples compile and answer what they say, and its tables leave nothing out. */
public final class ReadmeTest {
    private static final Pattern BLOCK = Pattern.compile("(?s)```java\n(.*?)```");
    private static final Pattern ASKED = Pattern.compile("(?m)^(x\\.\\w+\\(.*\\));\\s*// (-?\\d+)\\b.*$");
    private static final Pattern UNASKED = Pattern.compile("(?m)^x\\.\\w+\\(.*\\);(?!\\s*// -?\\d).*$");

    public static void main(String[] args) throws Exception {
        String page = Files.readString(Path.of("README.md"));
        examples(page);
        everyMethodIsTold(page);
        everyTestIsTold(page);
        Due.end();
    }

    private static void examples(String page) throws Exception {
        StringBuilder source = new StringBuilder("public final class Examples {\n");
        Matcher blocks = BLOCK.matcher(page);
        int count = 0;
        while (blocks.find()) {
            Matcher unasked = UNASKED.matcher(blocks.group(1));
            Due.holds("each call of an example tells its answer", !unasked.find());
            source.append("public static void example").append(count++).append("() {\n");
            Matcher asked = ASKED.matcher(blocks.group(1));
            source.append(asked.replaceAll("Due.is(\"README.md: $1\", $1, $2);"));
            source.append("}\n");
        }
        source.append("}\n");
        Due.holds("there are examples", count > 0);
        run(source.toString(), count);
    }

    private static void run(String source, int count) throws Exception {
        Path work = Files.createTempDirectory("readme");
        try {
            Path file = Files.writeString(work.resolve("Examples.java"), source);
            int result = new ProcessBuilder("javac", "-classpath", System.getProperty("java.class.path"),
                    "-d", work.toString(), file.toString()).inheritIO().start().waitFor();
            Due.is("the examples compile", result, 0);
            if (result != 0) {
                return;
            }
            try (URLClassLoader loader = new URLClassLoader(new URL[] {work.toUri().toURL()})) {
                Class<?> examples = loader.loadClass("Examples");
                for (int i = 0; i < count; i++) {
                    int before = Due.askedSoFar();
                    examples.getMethod("example" + i).invoke(null);
                    Due.holds("the example " + i + " asks something", Due.askedSoFar() > before);
                }
            }
        } finally {
            delete(work);
        }
    }

    private static void delete(Path directory) throws Exception {
        try (Stream<Path> files = Files.walk(directory)) {
            for (Path file : (Iterable<Path>) files.sorted(Comparator.reverseOrder())::iterator) {
                Files.delete(file);
            }
        }
    }

    private static void everyMethodIsTold(String page) {
        String table = page.substring(Math.max(0, page.indexOf("### What it answers")));
        for (Method method : TryLoops.class.getDeclaredMethods()) {
            if (Modifier.isPublic(method.getModifiers())) {
                Due.holds("the table tells of " + method.getName(), table.contains("`" + method.getName() + "("));
            }
        }
        for (String constant : List.of("UNKNOWN", "OUT_OF_RANGE", "FULL", "NOT_POSSIBLE", "NONE")) {
            Due.holds("the page tells of " + constant, page.contains("`" + constant + "`"));
        }
    }

    private static void everyTestIsTold(String page) throws Exception {
        try (DirectoryStream<Path> tests = Files.newDirectoryStream(Path.of("src/test/java"), "*.java")) {
            for (Path test : tests) {
                String name = test.getFileName().toString().replace(".java", "");
                Due.holds("a table tells of " + name, page.contains("`" + name + "`"));
            }
        }
        Matcher named = Pattern.compile("`(\\w+Test)`").matcher(page);
        while (named.find()) {
            Due.holds("there is " + named.group(1), Files.exists(Path.of("src/test/java", named.group(1) + ".java")));
        }
    }
}
