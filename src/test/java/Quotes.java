import java.io.IOException;
import java.nio.file.Files;
import java.nio.file.Path;
import java.util.Arrays;
import java.util.List;

/** Runs behind all tests of the project: every word of the document must be among those that some test quoted. */
final class Quotes {
    private Quotes() {
    }

    public static void main(String[] args) throws IOException {
        String document = Files.readString(Path.of(System.getProperty("document")));
        List<String> quoted = Files.readAllLines(Path.of(System.getProperty("quoted")));
        String[] sections = document.split("\n## ");
        // The first of them is the document's name alone.
        for (int k = 1; k < sections.length; k++) {
            showUnquoted(sections[k], quoted);
        }
        Probe.finish();
    }

    private static void showUnquoted(String section, List<String> quoted) {
        int end = section.indexOf('\n');
        String heading = section.substring(0, end);
        String words = Probe.plain(section.substring(end));
        boolean[] held = new boolean[words.length()];
        for (String line : quoted) {
            String[] quote = line.split("\t", 2);
            if (heading.equals(quote[0]) || heading.startsWith(quote[0] + ":")) {
                mark(words, Probe.plain(quote[1]), held);
            }
        }
        for (int from = 0; from < held.length; from++) {
            int to = from;
            while (to < held.length && !held[to]) {
                to++;
            }
            String left = words.substring(from, to);
            if (tellsSomething(left)) {
                Probe.complain(heading + ": no test quotes \"" + left.trim() + "\"");
            }
            from = to;
        }
    }

    private static void mark(String words, String quote, boolean[] held) {
        for (int at = words.indexOf(quote); at >= 0; at = words.indexOf(quote, at + 1)) {
            Arrays.fill(held, at, at + quote.length(), true);
        }
    }

    /** Spaces, signs between sentences and the marks round code tell nothing. */
    private static boolean tellsSomething(String left) {
        return left.replace("```java", "").replace("```text", "").chars().anyMatch(Character::isLetterOrDigit);
    }
}
