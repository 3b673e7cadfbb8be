/** "Terms", READ: what is read though it is told at greater length than it is written, and the tables then. */
final class TermsReadTest {
    private static final int NONE = GrinCoder.NONE;

    public static void main(String[] args) {
        allThatIsWritten();
        atGreaterLength();
        smallIntegers();
        textsAsLongOnes();
        emptyTexts();
        textsAsOthers();
        namesAsOthers();
        namesAsLongOnes();
        emptyNames();
        inFull();
        placesInTwoBytes();
        countsWith0Before();
        bytesOfCounts();
        tablesOfTexts();
        tablesOfNames();
        tablesWithoutFlags();
        tablesAreEmptied();
        Probe.finish();
    }

    private static void tells(int flags, String hex, String items) {
        Run x = Run.of(flags, hex);
        Probe.due("items of " + Probe.brief(hex), x.items(), items);
        Probe.due("place()", x.place(), NONE);
        Probe.due("whole", x.count(1), 1);
    }

    private static void fails(int flags, String hex, int fault, int place) {
        Run x = new Run();
        Probe.due("read() of " + Probe.brief(hex), x.reads(flags, hex), fault);
        Probe.due("place() of " + Probe.brief(hex), x.place(), place);
    }

    private static void allThatIsWritten() {
        Probe.sentence("Terms", "READ is all of this,");
        Run x = new Run();
        x.value(6);
        x.name("C3A9");
        x.value(5);
        for (int kind = 0; kind <= 4; kind++) {
            x.types(kind >= 3 ? "6162" : "");
            x.value(kind);
        }
        x.text("6162");
        x.integer(-16);
        x.integer(-17);
        x.integer(Long.MIN_VALUE);
        x.real(0xFFFFFFFFL, 0);
        x.real(-1, 1);
        x.end();
        x.name("C3A9");
        x.value(6);
        x.end();
        x.end();
        String items = x.items();
        for (int flags = 0; flags <= 7; flags++) {
            x.write(flags);
            x.loop();
            Probe.due("read() of what is written with " + flags, x.read(), 0);
            Probe.due("items written with " + flags, x.items(), items);
        }
    }

    private static void atGreaterLength() {
        Probe.sentence("Terms", "READ is all of this, also told at greater length than it is written:");
        String[][] longAndWritten = {
            {"24 80", "C0"}, {"24 9F", "DF"}, {"25 00 9E", "DE"}, {"24 00 A0", "24 A0"},
            {"25 00 1F 7F 7F 7F BF", "24 1F 7F 7F 7F BF"}, {"E0 61 FC", "4061"}, {"E4 61 FC", "4061"},
            {"E4 C3A9 FC", "80C3A9"}, {"E0FC", "20"}, {"E4FC", "20"}, {"FA 34FC 21 FB", "FA 20 21 FB"}, {"FA 3461FC 21 FB", "FA 8061 21 FB"},
            {"FA 34C3A9FC 21 FB", "FA C0C3A9 21 FB"}, {"FD 00 81 FF", "FD 81 FF"}, {"E8 00 81 7F 01", "FD 81 FF"},
            {"F8 4061 4061 F9", "F8 4061 01 F9"}, {"F8 4061 EC00 F9", "F8 4061 01 F9"},
            {"FA 8061 21 8061 21 FB", "FA 8061 21 40 21 FB"}, {"FA 8061 21 3000 21 FB", "FA 8061 21 40 21 FB"},
        };
        for (String[] pair : longAndWritten) {
            String hex = Probe.plainHex(pair[1]);
            Run x = Run.of(7, pair[0]);
            Probe.due(pair[0] + ", written", x.writes(7), hex);
            Probe.due("the same as " + pair[1], x.items(), Run.of(7, hex).items());
            Probe.due("greater length", Probe.plainHex(pair[0]).length() > hex.length() ? 1 : 0, 1);
        }
        // As long, but told otherwise than it is written.
        Probe.due("ASCII as 80", Run.of(0, "80 6162").writes(0), "416162");
        Probe.due("ASCII as A0", Run.of(0, "A0" + Probe.times("61", 34)).writes(0), "61" + Probe.times("61", 34));
        Probe.due("a name as C0", Run.of(0, "FA C06162 21 FB").writes(0), "FA81616221FB");
        Probe.due("32 bits as 25", Run.of(0, "25 A0").writes(0), "24A0");
    }

    private static void smallIntegers() {
        Probe.sentence("Terms", "a small integer as 24 or 25,");
        for (int v = -17; v <= 16; v++) {
            String count = Probe.hex(0x80 + (v >= 0 ? 2 * v : -2 * v - 1));
            tells(0, "24" + count, "0i" + v);
            tells(0, "25" + count, "0i" + v);
        }
        // Nothing calls it a fault when 25 tells what 24 could.
        tells(0, "25 1F 7F 7F 7F BE", "0i" + Integer.MAX_VALUE);
        tells(0, "25 1F 7F 7F 7F BF", "0i" + Integer.MIN_VALUE);
        tells(0, "25 20 00 00 00 80", "0i2147483648");
        fails(0, "24 20 00 00 00 80", 6, 4);
    }

    private static void textsAsLongOnes() {
        Probe.sentence("Terms", "a text as E0, E4,");
        for (int n : new int[] {1, 2, 32, 33, 34, 64, 65}) {
            String ascii = Probe.times("61", n);
            tells(0, "E0" + ascii + "FC", "0s" + ascii);
            tells(0, "E4" + ascii + "FC", "0s" + ascii);
            String other = Probe.times("C3A9", n);
            tells(0, "E4" + other + "FC", "0s" + other);
            fails(0, "E0" + other + "FC", 4, 4);
        }
    }

    private static void emptyTexts() {
        Probe.sentence("Terms", "(the empty one as E0, E4, too),");
        tells(0, "20", "0s");
        tells(0, "E0FC", "0s");
        tells(0, "E4FC", "0s");
        tells(2, "F8 E0FC E4FC 20 F9", "0[ 1s 1s 1s 0]");
    }

    private static void textsAsOthers() {
        Probe.sentence("Terms", "80, A0");
        for (int n = 2; n <= 33; n++) {
            String ascii = Probe.times("61", n);
            tells(0, Probe.hex(0x80 + n - 2) + ascii, "0s" + ascii);
        }
        for (int n = 34; n <= 64; n++) {
            String ascii = Probe.times("61", n);
            tells(0, Probe.hex(0xA0 + n - 34) + ascii, "0s" + ascii);
        }
        fails(0, "BF" + Probe.times("61", 65), 3, 4);
        Probe.sentence("Terms", "if it can be that;");
        fails(0, "81 61 61", 2, 7);
        fails(0, "40 80", 4, 4);
        fails(0, "41 C3 A9", 4, 4);
        fails(0, "60" + Probe.times("61", 31) + "C3A9", 4, 4);
    }

    private static void namesAsOthers() {
        Probe.sentence("Terms", "a name as C0, 34");
        for (int n = 2; n <= 57; n++) {
            String ascii = Probe.times("61", n);
            tells(0, "FA" + Probe.hex(0xC0 + n - 2) + ascii + "21FB", "0{ 1k" + ascii + " 1n 0]");
        }
        fails(0, "FA F8" + Probe.times("61", 58) + "21FB", 3, 5);
        fails(0, "FA 81 C3A9 21 FB", 4, 5);
    }

    private static void namesAsLongOnes() {
        Probe.sentence("Terms", "a name as C0, 34");
        for (int n : new int[] {1, 2, 57, 58, 64, 65}) {
            String ascii = Probe.times("61", n);
            tells(0, "FA34" + ascii + "FC21FB", "0{ 1k" + ascii + " 1n 0]");
            String other = Probe.times("C3A9", n);
            tells(0, "FA34" + other + "FC21FB", "0{ 1k" + other + " 1n 0]");
        }
    }

    private static void emptyNames() {
        Probe.sentence("Terms", "(the empty one as 34, too),");
        tells(1, "FA 20 21 34FC 21 FB", "0{ 1k 1n 1k 1n 0]");
    }

    private static void inFull() {
        Probe.sentence("Terms", "in full, what could be told by a place;");
        tells(3, "FA 8061 4062 8061 4062 FB", "0{ 1k61 1s62 1k61 1s62 0]");
        // Each time it takes a place of its own, and each of these can be told.
        tells(2, "F8 4061 4061 4062 01 02 03 F9", "0[ 1s61 1s61 1s62 1s61 1s61 1s62 0]");
        tells(1, "FA 8061 21 8061 21 8062 21 40 21 41 21 42 21 FB",
            "0{ 1k61 1n 1k61 1n 1k62 1n 1k61 1n 1k61 1n 1k62 1n 0]");
    }

    /** Texts 0 .. n - 1 of many. */
    private static String texts(int n) {
        StringBuilder all = new StringBuilder();
        for (int k = 0; k < n; k++) {
            all.append("41").append(Probe.twoBytes(k));
        }
        return all.toString();
    }

    private static String names(int n) {
        StringBuilder all = new StringBuilder();
        for (int k = 0; k < n; k++) {
            all.append("81").append(Probe.twoBytes(k)).append("21");
        }
        return all.toString();
    }

    private static void placesInTwoBytes() {
        Probe.sentence("Terms", "a place below 64 or 31 in two bytes;");
        Run x = Run.of(2, "F8" + texts(32) + "01 EC00 1F EC1E EC1F F9");
        int[] places = {0, 0, 30, 30, 31};
        for (int k = 0; k < places.length; k++) {
            Probe.due("text", x.bytesOf(33 + k), Probe.twoBytes(places[k]));
        }
        Run y = Run.of(1, "FA" + names(65) + "40 21 3000 21 7F 21 303F 21 3040 21 FB");
        int[] others = {0, 0, 63, 63, 64};
        for (int k = 0; k < others.length; k++) {
            Probe.due("name", y.bytesOf(1 + 2 * (65 + k)), Probe.twoBytes(others[k]));
        }
    }

    private static void countsWith0Before() {
        Probe.sentence("Terms", "counts with 0 before them.");
        tells(0, "24 00 A0", "0i16");
        tells(0, "24 00 00 00 00 A0", "0i16");
        tells(0, "24 00 00 00 01 80", "0i32");
        tells(0, "25 00 A0", "0i16");
        tells(0, "25 00 00 00 00 00 00 00 00 00 81", "0i-1");
        tells(0, "25 00 1F 7F 7F 7F BF", "0i" + Integer.MIN_VALUE);
        tells(0, "E8 00 81 7F 01", "0bFF");
        tells(0, "E8 00 00 00 00 81 7F 01", "0bFF");
        tells(0, "E8 00 00 00 00 80", "0b");
        tells(4, "FD 00 81 FF", "0bFF");
        tells(4, "FD 00 00 00 00 81 FF", "0bFF");
        tells(4, "FD 00 00 00 00 80", "0b");
    }

    private static void bytesOfCounts() {
        Probe.sentence("Terms", "A count has at most 5 bytes (that of 25: 10).");
        tells(0, "24 00 00 00 00 A0", "0i16");
        fails(0, "24 00 00 00 00 00 A0", 3, 9);
        tells(0, "E8 00 00 00 00 81 7F 01", "0bFF");
        fails(0, "E8 00 00 00 00 00 81 7F 01", 3, 9);
        tells(4, "FD 00 00 00 00 81 FF", "0bFF");
        fails(4, "FD 00 00 00 00 00 81 FF", 3, 9);
        tells(0, "25 00 00 00 00 00 A0", "0i16");
        tells(0, "25 00 00 00 00 00 00 00 00 00 A0", "0i16");
        fails(0, "25 00 00 00 00 00 00 00 00 00 00 A0", 3, 14);
    }

    private static void tablesOfTexts() {
        Probe.sentence("Terms", "What is read in full comes into the tables just as what is written so.");
        tells(2, "F8 E061FC E462FC 806363 4064 01 02 03 04 F9",
            "0[ 1s61 1s62 1s6363 1s64 1s61 1s62 1s6363 1s64 0]");
        String most = Probe.times("61", 64);
        String tooLong = Probe.times("62", 65);
        for (String before : new String[] {"7F", "BE"}) {
            tells(2, "F8" + before + most + "01F9", "0[ 1s" + most + " 1s" + most + " 0]");
        }
        for (String before : new String[] {"E0", "E4"}) {
            tells(2, "F8" + before + most + "FC01F9", "0[ 1s" + most + " 1s" + most + " 0]");
            tells(2, "F8" + before + tooLong + "FC406301F9", "0[ 1s" + tooLong + " 1s63 1s63 0]");
            fails(2, "F8" + before + tooLong + "FC01F9", 5, 4 + 1 + 67);
            tells(2, "F8" + before + "FC406301F9", "0[ 1s 1s63 1s63 0]");
            fails(2, "F8" + before + "FC01F9", 5, 4 + 1 + 2);
        }
        tells(2, "F8 20 4063 01 F9", "0[ 1s 1s63 1s63 0]");
        fails(2, "F8 20 01 F9", 5, 6);
        // Bytes are no texts, and what is told by its place does not come again.
        fails(6, "F8 FD8161 01 F9", 5, 8);
        fails(2, "F8 E8817F01 01 F9", 5, 9);
        fails(2, "F8 4061 01 02 F9", 5, 8);
    }

    private static void tablesOfNames() {
        Probe.sentence("Terms", "What is read in full comes into the tables just as what is written so.");
        tells(1, "FA 3461FC 21 C06262 21 8063 21 40 21 41 21 42 21 FB",
            "0{ 1k61 1n 1k6262 1n 1k63 1n 1k61 1n 1k6262 1n 1k63 1n 0]");
        String[] most = {Probe.times("61", 64), Probe.times("C3A9", 32), Probe.times("C3A9", 29)};
        for (String hex : most) {
            tells(1, "FA34" + hex + "FC214021FB", "0{ 1k" + hex + " 1n 1k" + hex + " 1n 0]");
        }
        tells(1, "FABF" + most[0] + "214021FB", "0{ 1k" + most[0] + " 1n 1k" + most[0] + " 1n 0]");
        String tooLong = Probe.times("62", 65);
        fails(1, "FA34" + tooLong + "FC2140", 5, 4 + 1 + 68);
        tells(1, "FA34" + tooLong + "FC218063214021FB", "0{ 1k" + tooLong + " 1n 1k63 1n 1k63 1n 0]");
        fails(1, "FA 20 21 40", 5, 7);
        fails(1, "FA 34FC 21 40", 5, 8);
        fails(1, "FA 8061 21 40 21 41", 5, 10);
    }

    private static void tablesWithoutFlags() {
        Probe.sentence("Terms", "What is read in full comes into the tables just as what is written so.");
        // With one flag alone, only its table is filled.
        tells(1, "FA 8061 4062 40 4062 FB", "0{ 1k61 1s62 1k61 1s62 0]");
        tells(2, "FA 8061 4062 8061 01 FB", "0{ 1k61 1s62 1k61 1s62 0]");
        fails(1, "FA 8061 4062 40 01 FB", 3, 10);
        fails(2, "FA 8061 4062 40 4062 FB", 3, 9);
    }

    private static void tablesAreEmptied() {
        Probe.sentence("Terms", "What is read in full comes into the tables just as what is written so.");
        Run last = Run.of(2, "F8" + texts(1024) + "01 EFFD F9");
        Probe.due("place 0 when there are 1024", last.bytesOf(1025), Probe.twoBytes(0));
        Probe.due("place 1021 when there are 1024", last.bytesOf(1026), Probe.twoBytes(1021));
        Run next = Run.of(2, "F8" + texts(1025) + "01 F9");
        Probe.due("place 0 when there was one more", next.bytesOf(1026), Probe.twoBytes(1024));
        fails(2, "F8" + texts(1025) + "02 F9", 5, 4 + 1 + 3 * 1025);
        fails(2, "F8" + texts(1025) + "EFFD F9", 5, 4 + 1 + 3 * 1025);
        // What can't be told takes its place all the same.
        Run beyond = Run.of(2, "F8" + texts(257) + "ED00 F9");
        Probe.due("place 256", beyond.bytesOf(258), Probe.twoBytes(256));
    }
}
