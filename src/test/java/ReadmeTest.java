import java.io.IOException;
import java.lang.reflect.Method;
import java.net.URL;
import java.net.URLClassLoader;
import java.nio.file.Files;
import java.nio.file.Path;
import java.util.Set;
import java.util.TreeSet;
import java.util.function.BiConsumer;
import java.util.regex.Matcher;
import java.util.regex.Pattern;
import java.util.stream.Stream;
import javax.tools.ToolProvider;

/** README.md's code is compiled as it stands there, in one piece, and each call answers what is shown behind it. */
final class ReadmeTest {
    private static final Path README = Path.of("README.md");
    private static final Path TESTS = Path.of("src/test/java");
    private static final Pattern BLOCK = Pattern.compile("(?s)```java\n(.*?)```");
    private static final Pattern CALL = Pattern.compile("(?m)^(x\\.(\\w+)\\(.*\\));\\s+// (-?\\d+|[A-Z]+): .*$");
    private static final int CALLS = 512;

    private final Check check = new Check();

    public static void main(String[] args) throws IOException, ReflectiveOperationException {
        ReadmeTest test = new ReadmeTest();
        String readme = Files.readString(README);
        String shown = shown(readme);
        test.everyCallHasItsAnswer(shown);
        test.everyCallIsShown(shown);
        test.answers(shown);
        test.everyTestIsNamed(readme);
        test.check.end();
    }

    private static String shown(String readme) {
        StringBuilder shown = new StringBuilder();
        Matcher block = BLOCK.matcher(readme);
        while (block.find()) {
            shown.append(block.group(1));
        }
        return shown.toString();
    }

    private void everyCallHasItsAnswer(String shown) {
        long calls = shown.lines().filter(line -> line.startsWith("x.")).count();
        check.due("calls with an answer", (int) CALL.matcher(shown).results().count(), (int) calls);
        int fed = shown.split("String text = \"")[1].indexOf('"');
        check.due("calls on one object", calls + fed > CALLS ? (int) calls + fed : 0, 0);
    }

    private void everyCallIsShown(String shown) {
        Set<String> names = new TreeSet<>();
        Matcher call = Pattern.compile("\\bx\\.(\\w+)\\(").matcher(shown);
        while (call.find()) {
            names.add(call.group(1));
        }
        for (Method m : LetterOunces.class.getMethods()) {
            if (m.getDeclaringClass() == LetterOunces.class) {
                check.due(m.getName() + " is shown", names.contains(m.getName()) ? 1 : 0, 1);
            }
        }
    }

    /** The shown lines stay as they are, but that each call's answer is handed on. */
    private static String program(String shown) {
        Matcher call = CALL.matcher(shown);
        String body = call.replaceAll(c -> {
            String due = c.group(3).matches("[A-Z]+") ? "LetterOunces." + c.group(3) : c.group(3);
            return Matcher.quoteReplacement(
                    "due.accept(\"" + c.group(1) + "\", new int[] {" + c.group(1) + ", " + due + "});");
        });
        return "public final class Shown {\n"
                + "    public static void run(java.util.function.BiConsumer<String, int[]> due) {\n" + body + "    }\n}\n";
    }

    private void answers(String shown) throws IOException, ReflectiveOperationException {
        Path folder = Files.createTempDirectory("readme");
        try {
            Path source = Files.writeString(folder.resolve("Shown.java"), program(shown));
            String path = System.getProperty("java.class.path");
            int failed = ToolProvider.getSystemJavaCompiler().run(null, null, null, "-cp", path, "-d",
                    folder.toString(), source.toString());
            check.due("README.md's code compiles", failed, 0);
            if (failed == 0) {
                runShown(folder);
            }
        } finally {
            Files.deleteIfExists(folder.resolve("Shown.java"));
            Files.deleteIfExists(folder.resolve("Shown.class"));
            Files.deleteIfExists(folder);
        }
    }

    private void runShown(Path folder) throws IOException, ReflectiveOperationException {
        URL[] where = {folder.toUri().toURL()};
        try (URLClassLoader loader = new URLClassLoader(where, ReadmeTest.class.getClassLoader())) {
            BiConsumer<String, int[]> due = (call, both) -> check.due("README.md: " + call, both[0], both[1]);
            loader.loadClass("Shown").getMethod("run", BiConsumer.class).invoke(null, due);
        }
    }

    private void everyTestIsNamed(String readme) throws IOException {
        try (Stream<Path> files = Files.list(TESTS)) {
            for (Path file : files.sorted().toList()) {
                String name = file.getFileName().toString().replace(".java", "");
                // Of Terms1Test to Terms4Test the first and the last are named.
                boolean isNamed = readme.contains("`" + name + "`") || name.matches("Terms[23]Test");
                check.due("README.md names " + name, isNamed ? 1 : 0, 1);
            }
        }
    }
}
