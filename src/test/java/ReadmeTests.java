import java.io.ByteArrayOutputStream;
import java.io.PrintStream;
import java.net.URL;
import java.net.URLClassLoader;
import java.nio.charset.StandardCharsets;
import java.nio.file.Files;
import java.nio.file.Path;
import java.util.Comparator;
import java.util.List;
import java.util.stream.Collectors;
import java.util.stream.Stream;

/** What README.md says of the use of the class is true; .ci/run begins the tests where README.md is. */
final class ReadmeTests {
    private ReadmeTests() {
    }

    static void all() {
        Check.test("README.md: the example compiles and prints what stands there", ReadmeTests::example);
        Check.test("README.md names every method of the class", ReadmeTests::everyMethod);
    }

    private static List<String> rows() throws Exception {
        return Files.readAllLines(Path.of("README.md"), StandardCharsets.UTF_8);
    }

    /** The rows between the fences of the first block of such a kind. */
    private static String block(String kind) throws Exception {
        return rows().stream().dropWhile(row -> !row.equals("```" + kind)).skip(1).takeWhile(row -> !row.equals("```"))
            .collect(Collectors.joining("\n"));
    }

    private static void example() throws Exception {
        Path directory = Files.createTempDirectory("example");
        try {
            Path file = Files.writeString(directory.resolve("Example.java"), block("java"));
            Process javac = new ProcessBuilder("javac", "-encoding", "UTF-8", "-cp", System.getProperty("java.class.path"),
                "-d", directory.toString(), file.toString()).inheritIO().start();
            Check.due("javac", javac.waitFor(), 0);
            Check.due("the example", printedBy(directory).strip(), block("text"));
        } finally {
            remove(directory);
        }
    }

    private static String printedBy(Path directory) throws Exception {
        PrintStream usual = System.out;
        ByteArrayOutputStream printed = new ByteArrayOutputStream();
        try (URLClassLoader loader = new URLClassLoader(new URL[] {directory.toUri().toURL()})) {
            System.setOut(new PrintStream(printed, true, StandardCharsets.UTF_8));
            loader.loadClass("Example").getMethod("main", String[].class).invoke(null, (Object) new String[0]);
        } finally {
            System.setOut(usual);
        }
        return printed.toString(StandardCharsets.UTF_8).replace(System.lineSeparator(), "\n");
    }

    private static void remove(Path directory) throws Exception {
        try (Stream<Path> paths = Files.walk(directory)) {
            for (Path path : paths.sorted(Comparator.reverseOrder()).collect(Collectors.toList())) {
                Files.delete(path);
            }
        }
    }

    private static void everyMethod() throws Exception {
        String text = String.join("\n", rows());
        for (java.lang.reflect.Method method : SongRefinery.class.getMethods()) {
            if (method.getDeclaringClass() == SongRefinery.class) {
                Check.dueTrue("`" + method.getName() + "` stands in README.md", text.matches("(?s).*`" + method.getName() + "\\b.*"));
            }
        }
    }
}
