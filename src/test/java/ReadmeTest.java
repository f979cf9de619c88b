import java.io.ByteArrayOutputStream;
import java.io.IOException;
import java.io.PrintStream;
import java.lang.reflect.Method;
import java.lang.reflect.Modifier;
import java.net.URL;
import java.net.URLClassLoader;
import java.nio.file.Files;
import java.nio.file.Path;
import java.util.Comparator;
import java.util.List;
import java.util.Map;
import java.util.Set;
import java.util.TreeMap;
import java.util.TreeSet;
import java.util.regex.MatchResult;
import java.util.regex.Pattern;
import java.util.stream.Collectors;
import java.util.stream.Stream;
import javax.tools.ToolProvider;

/** README.md: its program answers what it says, its calls are those of the face, its tests are there. */
public final class ReadmeTest {
    private static final Path TESTS = Path.of("src/test/java");

    private static final Check check = new Check();

    public static void main(String[] args) throws Exception {
        String page = Files.readString(Path.of("README.md"));
        program(page);
        calls(page);
        tests(page);
        check.end("ReadmeTest");
    }

    private static List<MatchResult> all(String text, String pattern) {
        return Pattern.compile(pattern, Pattern.MULTILINE).matcher(text).results().toList();
    }

    private static void program(String page) throws Exception {
        List<MatchResult> blocks = all(page, "^```java\\n((?:.*\\n)*?)```$");
        check.due("programs on the page", 1, blocks.size());
        String program = blocks.get(0).group(1);
        String want = all(program, "; // (-?\\d+)$").stream().map(r -> r.group(1) + "\n").collect(Collectors.joining());
        check.due("every answer shown is told", all(program, "\\bshow\\(x").size(), want.lines().count());
        check.same("the program's answers", want, printed(program));
    }

    private static String printed(String program) throws Exception {
        Path dir = Files.createTempDirectory("readme");
        try {
            Path file = Files.writeString(dir.resolve("Example.java"), program);
            int failed = ToolProvider.getSystemJavaCompiler().run(null, null, null, "-d", dir.toString(),
                    "src/main/java/ChalkWall.java", file.toString());
            check.due("the program compiles", 0, failed);
            return failed == 0 ? run(dir) : "";
        } finally {
            remove(dir);
        }
    }

    private static String run(Path dir) throws Exception {
        ByteArrayOutputStream written = new ByteArrayOutputStream();
        PrintStream before = System.out;
        // No parent that knows ChalkWall, so that the class is the one just compiled from the source.
        try (URLClassLoader loader = new URLClassLoader(new URL[] {dir.toUri().toURL()},
                ClassLoader.getPlatformClassLoader())) {
            System.setOut(new PrintStream(written, true));
            loader.loadClass("Example").getMethod("main", String[].class).invoke(null, (Object) new String[0]);
        } finally {
            System.setOut(before);
        }
        return written.toString().replace("\r", "");
    }

    private static void remove(Path dir) throws IOException {
        try (Stream<Path> files = Files.walk(dir)) {
            for (Path file : files.sorted(Comparator.reverseOrder()).toList()) {
                Files.delete(file);
            }
        }
    }

    private static void calls(String page) {
        Map<String, Integer> face = new TreeMap<>();
        for (Method method : ChalkWall.class.getDeclaredMethods()) {
            if (Modifier.isPublic(method.getModifiers())) {
                face.put(method.getName(), method.getParameterCount());
            }
        }
        Map<String, Integer> told = new TreeMap<>();
        String tables = all(page, "^\\| `.*$").stream().map(MatchResult::group).collect(Collectors.joining("\n"));
        for (MatchResult call : all(tables, "`(\\w+)\\(([\\w, ]*)\\)`")) {
            told.put(call.group(1), call.group(2).isEmpty() ? 0 : call.group(2).split(",").length);
        }
        check.same("the calls on the page", face.toString(), told.toString());
    }

    private static void tests(String page) throws IOException {
        Set<String> told = all(page, "^\\| (\\w+Test) \\|").stream().map(r -> r.group(1))
                .collect(Collectors.toCollection(TreeSet::new));
        Set<String> there;
        try (Stream<Path> files = Files.list(TESTS)) {
            there = files.map(f -> f.getFileName().toString()).filter(n -> n.endsWith("Test.java"))
                    .map(n -> n.replace(".java", "")).collect(Collectors.toCollection(TreeSet::new));
        }
        check.same("the tests on the page", there.toString(), told.toString());
        check.due(".ci/run can be run", true, page.contains("`.ci/run`") && Files.isExecutable(Path.of(".ci/run")));
    }
}
