import java.io.IOException;
import java.lang.invoke.MethodHandles;
import java.lang.reflect.Method;
import java.lang.reflect.Modifier;
import java.nio.charset.StandardCharsets;
import java.nio.file.Files;
import java.nio.file.Path;
import java.util.List;
import java.util.Set;
import java.util.TreeSet;
import java.util.regex.Matcher;
import java.util.regex.Pattern;
import java.util.stream.Stream;
import javax.tools.ToolProvider;

/**
 * What README.md shows of calls is what the class answers: its java blocks are put into one class, each call with an
 * answer behind it as a check, and that is compiled and run.
 */
public final class ReadmeTest {
    private static final Pattern BLOCK = Pattern.compile("(?s)```java\n(.*?)```");
    private static final Pattern SHOWN = Pattern.compile("(\\w+\\.(\\w+)\\(.*\\)); *// (NONE|true|false|\\d+)\\b(.*)");
    private static final Pattern TEXT = Pattern.compile("\"([^\"]*)\"");

    private static final Set<String> shownCalls = new TreeSet<>();

    public static void main(String[] args) throws Exception {
        Path root = Path.of(System.getProperty("greyroute.root", "."));
        String page = Files.readString(root.resolve("README.md"));
        runAsJava(asClass(page));
        checkAllCallsAreShown();
        checkAllTestsAreNamed(page, root.resolve("src/test/java"));
        Bench.finish();
    }

    private static String asClass(String page) {
        StringBuilder methods = new StringBuilder();
        StringBuilder run = new StringBuilder();
        Matcher blocks = BLOCK.matcher(page);
        while (blocks.find()) {
            String block = blocks.group(1);
            if (block.startsWith("static ")) {
                methods.append(block);
            } else {
                block.lines().forEach(line -> run.append(checkOf(line)).append('\n'));
            }
        }
        return "final class Shown {\n" + methods + "static void run() {\n" + run + "}\n}\n";
    }

    private static String checkOf(String line) {
        Matcher shown = SHOWN.matcher(line);
        if (!shown.matches()) {
            Bench.due("an answer is shown that is not read: " + line, line.contains("//"), false);
            return line;
        }
        shownCalls.add(shown.group(2));
        if (shown.group(2).equals("feed")) {
            checkShownBytes(shown.group(1), shown.group(4));
        }
        String answer = shown.group(3).equals("NONE") ? "GreyRoute.NONE" : shown.group(3);
        return "Bench.due(\"README: " + shown.group(1) + "\", " + shown.group(1) + ", " + answer + ");";
    }

    /** The text in the remark is the one that the numbers make. */
    private static void checkShownBytes(String call, String remark) {
        Matcher text = TEXT.matcher(remark);
        if (!text.find()) {
            return;
        }
        String[] numbers = call.substring(call.indexOf('(') + 1, call.length() - 1).split(", ");
        StringBuilder bytes = new StringBuilder();
        for (String number : numbers) {
            for (int shift = 24; shift >= 0; shift -= 8) {
                bytes.append((char) (Integer.decode(number) >> shift & 255));
            }
        }
        Bench.dueText(call, bytes.substring(0, text.group(1).length()), text.group(1));
    }

    private static void runAsJava(String source) throws Exception {
        Path made = Files.createTempDirectory("readme");
        try {
            Path file = made.resolve("Shown.java");
            Files.writeString(file, source, StandardCharsets.UTF_8);
            int failed = ToolProvider.getSystemJavaCompiler().run(null, null, null, "-proc:none", "-cp",
                System.getProperty("java.class.path"), "-d", made.toString(), file.toString());
            Bench.due("README.md's java does not compile", failed, 0);
            if (failed == 0) {
                runIn(made);
            }
        } finally {
            remove(made);
        }
    }

    /** By a loader that makes the new class a neighbour of Bench, which is no public one. */
    private static void runIn(Path made) throws Exception {
        byte[] bytes = Files.readAllBytes(made.resolve("Shown.class"));
        Class<?> shown = MethodHandles.lookup().defineClass(bytes);
        shown.getDeclaredMethod("run").invoke(null);
    }

    private static void remove(Path folder) throws IOException {
        try (Stream<Path> all = Files.list(folder)) {
            for (Path file : (Iterable<Path>) all::iterator) {
                Files.delete(file);
            }
        }
        Files.delete(folder);
    }

    private static void checkAllCallsAreShown() {
        for (Method m : GreyRoute.class.getDeclaredMethods()) {
            if (Modifier.isPublic(m.getModifiers())) {
                Bench.due("README.md shows " + m.getName() + "()", shownCalls.contains(m.getName()), true);
            }
        }
    }

    private static void checkAllTestsAreNamed(String page, Path tests) throws IOException {
        try (Stream<Path> all = Files.list(tests)) {
            List<String> names = all.map(p -> p.getFileName().toString().replace(".java", "")).toList();
            for (String name : names) {
                Bench.due("README.md names " + name, page.contains(name), true);
            }
        }
    }
}
