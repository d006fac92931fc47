import java.io.ByteArrayOutputStream;
import java.io.IOException;
import java.io.PrintStream;
import java.lang.reflect.Method;
import java.lang.reflect.Modifier;
import java.net.URL;
import java.net.URLClassLoader;
import java.nio.charset.StandardCharsets;
import java.nio.file.Files;
import java.nio.file.Path;
import java.util.Comparator;
import java.util.List;
import java.util.stream.Stream;
import javax.tools.ToolProvider;

/** That README.md holds: its example compiles and prints what is told there, and no call and no test is left out. */
public final class ReadmeTest {
    private ReadmeTest() {
    }

    public static void main(String[] args) throws IOException, ReflectiveOperationException {
        String readme = Files.readString(Path.of("README.md"));
        example(readme);
        calls(readme);
        constants(readme);
        tests(readme);
        Checks.end();
    }

    private static void example(String readme) throws IOException, ReflectiveOperationException {
        String program = block(readme, "java");
        String told = block(readme, "text");
        Checks.holds("README.md has an example and what it prints", !program.isEmpty() && !told.isEmpty());
        if (Checks.isAnyWrong()) {
            return;
        }
        Path out = Files.createTempDirectory("readme");
        try {
            List<String> printed = printed(out, program).lines().toList();
            List<String> due = told.lines().toList();
            Checks.due("lines that the example prints", printed.size(), due.size());
            for (int i = 0; i < Math.min(printed.size(), due.size()); i++) {
                Checks.holds("the example prints '" + due.get(i) + "', but '" + printed.get(i) + "'",
                    printed.get(i).equals(due.get(i)));
            }
        } finally {
            remove(out);
        }
    }

    /** The first block of README.md that is marked as being of this language. */
    private static String block(String readme, String language) {
        String mark = "\n```" + language + "\n";
        int start = readme.indexOf(mark);
        int stop = start < 0 ? -1 : readme.indexOf("\n```\n", start + mark.length() - 1);
        return stop < 0 ? "" : readme.substring(start + mark.length(), Math.max(start + mark.length(), stop));
    }

    private static String printed(Path out, String program) throws IOException, ReflectiveOperationException {
        Path file = Files.writeString(out.resolve("Example.java"), program);
        int compiled = ToolProvider.getSystemJavaCompiler().run(null, null, null, "-cp", System.getProperty("java.class.path"),
            "-d", out.toString(), file.toString());
        Checks.due("compiling the example", compiled, 0);
        ByteArrayOutputStream bytes = new ByteArrayOutputStream();
        PrintStream screen = System.out;
        if (compiled == 0) {
            try (URLClassLoader loader = new URLClassLoader(new URL[] {out.toUri().toURL()})) {
                Method main = loader.loadClass("Example").getMethod("main", String[].class);
                System.setOut(new PrintStream(bytes, true, StandardCharsets.UTF_8));
                main.invoke(null, (Object) new String[0]);
            } finally {
                System.setOut(screen);
            }
        }
        return bytes.toString(StandardCharsets.UTF_8);
    }

    private static void remove(Path directory) throws IOException {
        try (Stream<Path> all = Files.walk(directory)) {
            for (Path path : all.sorted(Comparator.reverseOrder()).toList()) {
                Files.delete(path);
            }
        }
    }

    private static void calls(String readme) {
        for (Method m : BridgeHouse.class.getDeclaredMethods()) {
            if (Modifier.isPublic(m.getModifiers())) {
                Checks.holds("README.md tells of " + m.getName(), readme.contains("| `" + m.getName() + "("));
            }
        }
    }

    private static void constants(String readme) {
        for (String name : List.of("BAD", "NO", "FULL", "NONE", "NOTHING", "INDEX", "SIZE")) {
            Checks.holds("README.md tells of " + name, readme.contains("`" + name + "`"));
        }
    }

    private static void tests(String readme) throws IOException {
        try (Stream<Path> all = Files.list(Path.of("src/test/java"))) {
            for (Path path : all.toList()) {
                String name = path.getFileName().toString().replace(".java", "");
                if (name.endsWith("Test")) {
                    Checks.holds("README.md tells of " + name, readme.contains("| `" + name + "` |"));
                }
            }
        }
    }
}
