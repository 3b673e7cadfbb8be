/** "Terms", WRITTEN: the bytes of each value, and where one form of them ends and the next begins. */
final class TermsWrittenTest {
    public static void main(String[] args) {
        flags();
        head();
        singles();
        smallIntegers();
        zigzag();
        integersOf32And64();
        counts();
        countOfOneByte();
        reals();
        asciiUpTo32();
        asciiUpTo64();
        othersUpTo33();
        othersUpTo64();
        thenTheBytes();
        longTexts();
        rawBytes();
        bitsOfBytes();
        bitsThatAreLeft();
        arrays();
        objects();
        emptyNames();
        asciiNames();
        otherNames();
        bytesOfNames();
        longNames();
        Probe.finish();
    }

    /** An object with two names, two texts and bytes that are the same. */
    private static Run twoOfEach() {
        Run x = new Run();
        x.value(6);
        for (int k = 0; k < 2; k++) {
            x.name("61");
            x.text("62");
        }
        x.name("61");
        x.bytes("FF");
        x.end();
        return x;
    }

    private static void flags() {
        Probe.sentence("Terms", "WRITTEN with FLAGS: bits 1 names are told again by where they were, 2 texts"
            + " are, 4 bytes are raw.");
        for (int flags = 0; flags <= 7; flags++) {
            String name = (flags & 1) != 0 ? "40" : "8061";
            String text = (flags & 2) != 0 ? "01" : "4062";
            String bytes = (flags & 4) != 0 ? "FD81FF" : "E8817F01";
            Probe.due("flags " + flags, twoOfEach().writes(flags), "FA80614062" + name + text + name + bytes + "FB");
        }
    }

    private static void head() {
        Probe.sentence("Terms", "First 3A 29 0A (all in hex), and the flags. Then the value:");
        for (int flags = 0; flags <= 7; flags++) {
            Run x = new Run();
            x.value(0);
            Probe.due("write(" + flags + ")", x.write(flags), 5);
            Probe.due("all bytes", x.writtenFrom(0), "3A290A0" + flags + "21");
        }
    }

    private static void singles() {
        Probe.sentence("Terms", "20 the empty text, 21 null, 22 false, 23 true;");
        String[] signs = {"21", "22", "23", "20"};
        for (int kind = 0; kind <= 3; kind++) {
            Run x = new Run();
            x.value(kind);
            for (int flags = 0; flags <= 7; flags++) {
                Probe.due("value(" + kind + ")", x.writes(flags), signs[kind]);
            }
        }
    }

    private static void integer(long v, String hex) {
        Run x = new Run();
        x.integer(v);
        Probe.due("integer(" + v + ")", x.writes(0), Probe.plainHex(hex));
        x.loop();
        Probe.due("read()", x.read(), 0);
        Probe.due("integer(" + v + "), read again", x.number(0), v);
    }

    private static void smallIntegers() {
        Probe.sentence("Terms", "an integer -16 .. 15: C0 + its ZIGZAG");
        integer(-17, "24 A1");
        for (int v = -16; v <= 15; v++) {
            integer(v, Probe.hex(0xC0 + (v >= 0 ? 2 * v : -2 * v - 1)));
        }
        integer(16, "24 A0");
    }

    private static void zigzag() {
        Probe.sentence("Terms", "(twice a number that is not below 0, else twice what it lacks to 0, less 1)");
        integer(0, "C0");
        integer(-1, "C1");
        integer(1, "C2");
        integer(-2, "C3");
        integer(31, "24 BE");
        integer(-32, "24 BF");
        integer(Integer.MAX_VALUE, "24 1F 7F 7F 7F BE");
        integer(Integer.MIN_VALUE, "24 1F 7F 7F 7F BF");
        integer(Long.MAX_VALUE, "25 03 7F 7F 7F 7F 7F 7F 7F 7F BE");
        integer(Long.MIN_VALUE, "25 03 7F 7F 7F 7F 7F 7F 7F 7F BF");
    }

    private static void integersOf32And64() {
        Probe.sentence("Terms", "others that 32 bits can tell: 24, others 25, then their zigzag as a COUNT.");
        integer(Integer.MAX_VALUE - 1, "24 1F 7F 7F 7F BC");
        integer(Integer.MAX_VALUE, "24 1F 7F 7F 7F BE");
        integer(Integer.MAX_VALUE + 1L, "25 20 00 00 00 80");
        integer(Integer.MIN_VALUE + 1, "24 1F 7F 7F 7F BD");
        integer(Integer.MIN_VALUE, "24 1F 7F 7F 7F BF");
        integer(Integer.MIN_VALUE - 1L, "25 20 00 00 00 81");
        integer(0xFFFFFFFFL, "25 3F 7F 7F 7F BE");
        integer(1L << 32, "25 40 00 00 00 80");
    }

    private static void counts() {
        Probe.sentence("Terms", "A count: in bytes, the last one 80 and the lowest 6 bits, before it bytes of 7"
            + " bits each, the highest first, none more than must be");
        integer(-32, "24 BF");
        integer(32, "24 01 80");
        integer(-4096, "24 7F BF");
        integer(4096, "24 01 00 80");
        integer(-(1L << 19), "24 7F 7F BF");
        integer(1L << 19, "24 01 00 00 80");
        integer(-(1L << 26), "24 7F 7F 7F BF");
        integer(1L << 26, "24 01 00 00 00 80");
        integer(-(1L << 33), "25 7F 7F 7F 7F BF");
        integer(1L << 33, "25 01 00 00 00 00 80");
        integer(-(1L << 40), "25 7F 7F 7F 7F 7F BF");
        integer(1L << 40, "25 01 00 00 00 00 00 80");
        integer(-(1L << 47), "25 7F 7F 7F 7F 7F 7F BF");
        integer(1L << 47, "25 01 00 00 00 00 00 00 80");
        integer(-(1L << 54), "25 7F 7F 7F 7F 7F 7F 7F BF");
        integer(1L << 54, "25 01 00 00 00 00 00 00 00 80");
        integer(-(1L << 61), "25 7F 7F 7F 7F 7F 7F 7F 7F BF");
        integer(1L << 61, "25 01 00 00 00 00 00 00 00 00 80");
        integer(0x123456789ABCDEFL, "25 04 46 45 33 62 35 3C 6F 9E");
    }

    private static void countOfOneByte() {
        Probe.sentence("Terms", "(one at least)");
        Run x = new Run();
        x.value(4);
        Probe.due("a count of 0", x.writes(4), "FD80");
        Probe.due("a count of 0", x.writes(0), "E880");
    }

    private static void real(long bits, int wide, String hex) {
        Run x = new Run();
        x.real(bits, wide);
        Probe.due("real(" + bits + ", " + wide + ")", x.writes(0), Probe.plainHex(hex));
        x.loop();
        Probe.due("read()", x.read(), 0);
        Probe.due("real(" + bits + ", " + wide + "), read again", x.number(0), bits);
    }

    private static void reals() {
        Probe.sentence("Terms", "28 a real of 32 bits, 29 of 64: 5 or 10 bytes of 7 bits each, the highest bits"
            + " first (0 before them).");
        real(0, 0, "28 00 00 00 00 00");
        real(1, 0, "28 00 00 00 00 01");
        real(0x3F800000L, 0, "28 03 7C 00 00 00");
        real(0x80000000L, 0, "28 08 00 00 00 00");
        real(0xFFFFFFFFL, 0, "28 0F 7F 7F 7F 7F");
        real(0, 1, "29 00 00 00 00 00 00 00 00 00 00");
        real(0x3FF0000000000001L, 1, "29 00 3F 78 00 00 00 00 00 00 01");
        real(Long.MIN_VALUE, 1, "29 01 00 00 00 00 00 00 00 00 00");
        real(Long.MAX_VALUE, 1, "29 00 7F 7F 7F 7F 7F 7F 7F 7F 7F");
        real(-1, 1, "29 01 7F 7F 7F 7F 7F 7F 7F 7F 7F");
    }

    private static void text(String hex, String before, String behind) {
        Run x = new Run();
        x.text(hex);
        Probe.due("text of " + hex.length() / 2, x.writes(0), before + hex + behind);
        Probe.due("text of " + hex.length() / 2, x.writes(7), before + hex + behind);
        x.loop();
        Probe.due("read()", x.read(), 0);
        Probe.due("text, read again", x.items(), "0s" + hex);
    }

    /** Some of so many bytes that is no ASCII. */
    private static String other(int n) {
        return (n % 2 == 0 ? "" : "61") + Probe.times("C3A9", n / 2);
    }

    private static void asciiUpTo32() {
        Probe.sentence("Terms", "an ASCII text of 1 .. 32 bytes: 40 + their number less 1;");
        text("", "20", "");
        text("00", "40", "");
        for (int n = 1; n <= 32; n++) {
            text(Probe.times("61", n), Probe.hex(0x40 + n - 1), "");
        }
    }

    private static void asciiUpTo64() {
        Probe.sentence("Terms", "of 33 .. 64: 60 + that less 33;");
        for (int n = 33; n <= 64; n++) {
            text(Probe.times("61", n), Probe.hex(0x60 + n - 33), "");
        }
    }

    private static void othersUpTo33() {
        Probe.sentence("Terms", "others of 2 .. 33: 80 + that less 2,");
        for (int n = 2; n <= 33; n++) {
            text(other(n), Probe.hex(0x80 + n - 2), "");
        }
    }

    private static void othersUpTo64() {
        Probe.sentence("Terms", "of 34 .. 64: A0 + that less 34;");
        for (int n = 34; n <= 64; n++) {
            text(other(n), Probe.hex(0xA0 + n - 34), "");
        }
    }

    /** Bytes from 21 on (all in hex), n of them, no two the same; they end in a character of two if it is no ASCII. */
    private static String row(int n, boolean ascii) {
        StringBuilder all = new StringBuilder();
        for (int k = 0; k < (ascii ? n : n - 2); k++) {
            all.append(Probe.hex(0x21 + k));
        }
        return all + (ascii ? "" : "C3A9");
    }

    private static void thenTheBytes() {
        Probe.sentence("Terms", "40 + their number less 1; of 33 .. 64: 60 + that less 33; others of 2 .. 33: 80 + that"
            + " less 2, of 34 .. 64: A0 + that less 34; then the bytes;");
        text(row(32, true), "5F", "");
        text(row(33, true), "60", "");
        text(row(64, true), "7F", "");
        text(row(33, false), "9F", "");
        text(row(34, false), "A0", "");
        text(row(64, false), "BE", "");
    }

    private static void longTexts() {
        Probe.sentence("Terms", "longer ones: E0 (ASCII) or E4, the bytes, FC.");
        text(Probe.times("61", 64), "7F", "");
        text(Probe.times("61", 65), "E0", "FC");
        text(Probe.times("61", 1000), "E0", "FC");
        text(other(64), "BE", "");
        text(other(65), "E4", "FC");
        text(Probe.times("61", 64) + "C3A9", "E4", "FC");
        text(other(1000), "E4", "FC");
        text(row(70, true), "E0", "FC");
        text(row(70, false), "E4", "FC");
    }

    private static void rawBytes() {
        Probe.sentence("Terms", "bytes: raw FD, their number as a count, the bytes;");
        String[] counts = {"80", "81", "BF", "0180", "0181", "0FA8"};
        int[] numbers = {0, 1, 63, 64, 65, 1000};
        for (int k = 0; k < counts.length; k++) {
            String hex = Probe.times("FC", numbers[k]);
            Run x = new Run();
            x.bytes(hex);
            for (int flags = 4; flags <= 7; flags++) {
                Probe.due(numbers[k] + " bytes", x.writes(flags), "FD" + counts[k] + hex);
            }
            x.loop();
            Probe.due("read()", x.read(), 0);
            Probe.due("bytes, read again", x.items(), "0b" + hex);
        }
    }

    private static void bits(String hex, String packed) {
        Run x = new Run();
        x.bytes(hex);
        for (int flags = 0; flags <= 3; flags++) {
            Probe.due("bits of " + Probe.brief(hex), x.writes(flags), "E8" + Probe.plainHex(packed));
        }
        x.loop();
        Probe.due("read()", x.read(), 0);
        Probe.due("bytes, read again", x.items(), "0b" + hex);
    }

    private static void bitsOfBytes() {
        Probe.sentence("Terms", "else E8, their number as a count, then all their bits, 7 in each byte, the"
            + " highest first;");
        bits("", "80");
        bits("80", "81 40 00");
        bits("0102", "82 00 40 02");
        bits("01020304050607", "87 00 40 40 30 20 14 0C 07");
        bits(Probe.times("00", 63), "BF" + Probe.times("00", 72));
        bits(Probe.times("FF", 63), "BF" + Probe.times("7F", 72));
        bits(Probe.times("FF", 64), "0180" + Probe.times("7F", 73) + "01");
        bits(Probe.times("FF", 1000), "0FA8" + Probe.times("7F", 1142) + "3F");
    }

    private static void bitsThatAreLeft() {
        Probe.sentence("Terms", "the last byte has those that are left, as its lowest ones.");
        bits("FF", "81 7F 01");
        bits("FFFF", "82 7F 7F 03");
        bits("FFFFFF", "83 7F 7F 7F 07");
        bits("FFFFFFFF", "84 7F 7F 7F 7F 0F");
        bits("FFFFFFFFFF", "85 7F 7F 7F 7F 7F 1F");
        bits("FFFFFFFFFFFF", "86 7F 7F 7F 7F 7F 7F 3F");
        bits("FFFFFFFFFFFFFF", "87 7F 7F 7F 7F 7F 7F 7F 7F");
        bits("FFFFFFFFFFFFFFFF", "88 7F 7F 7F 7F 7F 7F 7F 7F 7F 01");
        bits("00000000000000FE", "88 00 00 00 00 00 00 00 00 7F 00");
        bits("01", "81 00 01");
        bits("02", "81 01 00");
    }

    private static void arrays() {
        Probe.sentence("Terms", "F8, the values of an array, F9;");
        Run x = new Run();
        x.value(5);
        x.value(5);
        x.end();
        x.value(0);
        x.value(6);
        x.end();
        x.end();
        Probe.due("arrays", x.writes(0), "F8F8F921FAFBF9");
        Run empty = new Run();
        empty.value(5);
        empty.end();
        Probe.due("empty", empty.writes(0), "F8F9");
    }

    private static void objects() {
        Probe.sentence("Terms", "FA, the parts of an object, FB: before each value its name:");
        Run x = new Run();
        x.value(6);
        x.name("61");
        x.value(6);
        x.end();
        x.name("62");
        x.value(5);
        x.value(0);
        x.end();
        x.end();
        Probe.due("objects", x.writes(0), "FA8061FAFB8062F821F9FB");
        Run empty = new Run();
        empty.value(6);
        empty.end();
        Probe.due("empty", empty.writes(0), "FAFB");
        // 30 within each other, by turns, each with its own end.
        Run deep = new Run();
        for (int k = 0; k < 15; k++) {
            deep.value(5);
            deep.value(6);
            deep.name();
        }
        deep.value(0);
        for (int k = 0; k < 30; k++) {
            deep.end();
        }
        Probe.due("30 of them", deep.writes(0), Probe.times("F8FA20", 15) + "21" + Probe.times("FBF9", 15));
    }

    private static void name(String hex, String before, String behind) {
        Run x = new Run();
        x.value(6);
        x.name(hex);
        x.value(0);
        x.end();
        Probe.due("name of " + hex.length() / 2, x.writes(0), "FA" + before + hex + behind + "21FB");
        Probe.due("name of " + hex.length() / 2, x.writes(7), "FA" + before + hex + behind + "21FB");
        x.loop();
        Probe.due("read()", x.read(), 0);
        Probe.due("name, read again", x.items(), "0{ 1k" + hex + " 1n 0]");
    }

    private static void emptyNames() {
        Probe.sentence("Terms", "20 the empty one;");
        name("", "20", "");
    }

    private static void asciiNames() {
        Probe.sentence("Terms", "an ASCII one of 1 .. 64 bytes: 80 + that less 1;");
        name("00", "80", "");
        for (int n = 1; n <= 64; n++) {
            name(Probe.times("61", n), Probe.hex(0x80 + n - 1), "");
        }
    }

    private static void otherNames() {
        Probe.sentence("Terms", "others of 2 .. 57: C0 + that less 2;");
        for (int n = 2; n <= 57; n++) {
            name(other(n), Probe.hex(0xC0 + n - 2), "");
        }
    }

    private static void bytesOfNames() {
        Probe.sentence("Terms", "80 + that less 1; others of 2 .. 57: C0 + that less 2; then the bytes;");
        name(row(2, true), "81", "");
        name(row(64, true), "BF", "");
        name(row(3, false), "C1", "");
        name(row(57, false), "F7", "");
    }

    private static void longNames() {
        Probe.sentence("Terms", "others: 34, the bytes, FC.");
        name(Probe.times("61", 64), "BF", "");
        name(Probe.times("61", 65), "34", "FC");
        name(Probe.times("61", 1000), "34", "FC");
        name(other(57), "F7", "");
        for (int n = 58; n <= 66; n++) {
            name(other(n), "34", "FC");
        }
        name(other(1000), "34", "FC");
        name(row(65, true), "34", "FC");
        name(row(58, false), "34", "FC");
    }
}
