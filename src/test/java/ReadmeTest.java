import java.io.ByteArrayOutputStream;
import java.io.IOException;
import java.io.PrintStream;
import java.lang.reflect.Method;
import java.lang.reflect.Modifier;
import java.nio.charset.StandardCharsets;
import java.nio.file.Files;
import java.nio.file.Path;
import java.util.List;
import java.util.TreeSet;
import java.util.regex.Matcher;
import java.util.regex.Pattern;
import java.util.stream.Collectors;
import java.util.stream.Stream;

/** README.md: its example is the one that stands here and prints what it says, and it names all calls and tests. */
final class ReadmeTest {
    private static final Path PROJECT = Path.of(System.getProperty("project"));
    private static final Path TESTS = PROJECT.resolve("src/test/java");

    private ReadmeTest() {
    }

    public static void main(String[] args) throws IOException {
        String readme = Files.readString(PROJECT.resolve("README.md"));
        Probe.due("the example", block(readme, "java"), Files.readString(TESTS.resolve("Example.java")));
        Probe.due("what the example prints", block(readme, "text"), printed());
        Probe.due("the calls", firsts(readme, "`(\\w+)\\(.*\\)`"), calls());
        Probe.due("the tests", firsts(readme, "`(\\w+Test)`"), tests());
        Probe.due("the faults", firsts(readme, "([0-9]+)"), "1 2 3 4 5 6 7 8");
        Probe.finish();
    }

    /** The lines of the first block of a sort. */
    private static String block(String readme, String sort) {
        int start = readme.indexOf("```" + sort + "\n");
        int end = readme.indexOf("```\n", start + 1);
        return start < 0 || end < 0 ? "" : readme.substring(start + 4 + sort.length(), end);
    }

    private static String printed() {
        ByteArrayOutputStream bytes = new ByteArrayOutputStream();
        PrintStream before = System.out;
        System.setOut(new PrintStream(bytes, true, StandardCharsets.UTF_8));
        Example.main(new String[0]);
        System.setOut(before);
        return bytes.toString(StandardCharsets.UTF_8).replaceAll(" *\\R", "\n");
    }

    /** What the first cells of the tables' rows name, if they look so, in order of the alphabet. */
    private static String firsts(String readme, String form) {
        Matcher rows = Pattern.compile("(?m)^\\| " + form + " \\|").matcher(readme);
        List<String> all = rows.results().map(row -> row.group(1)).sorted().collect(Collectors.toList());
        return String.join(" ", all);
    }

    private static String calls() {
        TreeSet<String> all = new TreeSet<>();
        for (Method m : GrinCoder.class.getDeclaredMethods()) {
            if (Modifier.isPublic(m.getModifiers())) {
                all.add(m.getName());
            }
        }
        return String.join(" ", all);
    }

    private static String tests() throws IOException {
        try (Stream<Path> files = Files.list(TESTS)) {
            return files.map(file -> file.getFileName().toString())
                .filter(name -> name.endsWith("Test.java"))
                .map(name -> name.substring(0, name.length() - ".java".length()))
                .sorted().collect(Collectors.joining(" "));
        }
    }
}
