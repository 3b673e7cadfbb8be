import java.io.IOException;
import java.nio.file.Files;
import java.nio.file.Path;
import java.nio.file.StandardOpenOption;

/** What the tests share: bytes as hex, and the answers that were not due, each with the sentence it breaks. */
final class Probe {
    private static final String DOCUMENT = document();
    private static int wrong = 0;
    private static int sentences = 0;
    private static String sentence = "";
    private static final StringBuilder QUOTED = new StringBuilder();

    private Probe() {
    }

    /** The document's words without their line ends; nothing when it is not told where it stands. */
    private static String document() {
        String path = System.getProperty("document");
        try {
            return path == null ? null : plain(Files.readString(Path.of(path)));
        } catch (IOException e) {
            throw new IllegalStateException("the document can't be read: " + path, e);
        }
    }

    /** A text without its line ends. */
    static String plain(String text) {
        return text.replaceAll("\\s+", " ");
    }

    /** What is tested from here on: words of a section of the document, which must still stand there. */
    static void sentence(String section, String words) {
        sentence = section + ", \"" + words + "\": ";
        sentences++;
        QUOTED.append(section).append('\t').append(words).append('\n');
        if (DOCUMENT != null && !section(section).contains(plain(words))) {
            complain("these words are not in the document");
        }
    }

    /** All words from a section's heading to the next one. */
    private static String section(String name) {
        for (String text : DOCUMENT.split(" ## ")) {
            if (text.startsWith(name + ":") || text.startsWith(name + " ")) {
                return text;
            }
        }
        return "";
    }

    static void due(String what, long got, long want) {
        if (got != want) {
            complain(what + " answered " + got + ", due is " + want);
        }
    }

    static void due(String what, String got, String want) {
        if (!got.equals(want)) {
            complain(what + " answered\n  " + got + ", due is\n  " + want);
        }
    }

    static void complain(String text) {
        wrong++;
        System.out.println(sentence + text);
    }

    static void finish() {
        keepQuoted();
        String tested = sentences == 0 ? "" : sentences + " sentences: ";
        System.out.println(tested + (wrong == 0 ? "all answers are as due" : wrong + " answers are not as due"));
        if (wrong != 0) {
            System.exit(1);
        }
    }

    /** Leaves the quoted words for Quotes, which looks for those that no test quotes. */
    private static void keepQuoted() {
        String path = System.getProperty("quoted");
        if (path == null) {
            return;
        }
        try {
            Files.writeString(Path.of(path), QUOTED, StandardOpenOption.CREATE, StandardOpenOption.APPEND);
        } catch (IOException e) {
            throw new IllegalStateException("the quoted words can't be kept: " + path, e);
        }
    }

    static byte[] bytes(String hex) {
        String plain = plainHex(hex);
        byte[] row = new byte[plain.length() / 2];
        for (int k = 0; k < row.length; k++) {
            row[k] = (byte) Integer.parseInt(plain.substring(2 * k, 2 * k + 2), 16);
        }
        return row;
    }

    static String plainHex(String hex) {
        return hex.replace(" ", "");
    }

    static String hex(int b) {
        return String.format("%02X", b & 0xFF);
    }

    /** The four bytes before all values. */
    static String head(int flags) {
        return "3A290A" + hex(flags);
    }

    static String times(String hex, int n) {
        return plainHex(hex).repeat(n);
    }

    static String brief(String hex) {
        String plain = plainHex(hex);
        return plain.length() > 60 ? plain.substring(0, 30) + ".." + plain.substring(plain.length() - 26) : plain;
    }

    /** Text k of 4096 that are not the same, of two bytes. */
    static String twoBytes(int k) {
        return hex(0x20 + k / 64) + hex(0x30 + k % 64);
    }
}
