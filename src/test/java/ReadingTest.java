/** Promises 11 to 14: what is loaded, read, and which faults there are. */
final class ReadingTest {
    private static final int NONE = GrinCoder.NONE;

    public static void main(String[] args) {
        loading();
        looping();
        headFaults();
        endFaults();
        firstBytes();
        countFaults();
        textFaults();
        placeFaults();
        bitFaults();
        roomFaults();
        bytesBehind();
        greaterLength();
        tablesWhileReading();
        whatStays();
        Probe.finish();
    }

    /** Reads bytes behind a good head. */
    private static void fails(int flags, String hex, int fault, int place) {
        String all = Probe.HEAD + String.format("%02X", flags) + Probe.hex(hex);
        failsWhole(all, fault, place);
    }

    private static void failsWhole(String hex, int fault, int place) {
        GrinCoder x = new GrinCoder();
        Probe.load(x, hex);
        String shown = hex.length() > 60 ? hex.substring(0, 60) + ".." : hex;
        Probe.due("read() of " + shown, x.read(), fault);
        Probe.due("place() of " + shown, x.place(), place);
        Probe.due("loaded then", x.count(4), 0);
        Probe.due("items then", x.count(0), 0);
    }

    private static void tells(int flags, String hex, String items) {
        GrinCoder x = Probe.reading(flags, Probe.hex(hex));
        Probe.due("place()", x.place(), NONE);
        Probe.due("items of " + hex, Probe.items(x), items);
        Probe.due("whole", x.count(1), 1);
        Probe.due("check", x.check(), 1);
        Probe.due("loaded then", x.count(4), 0);
    }

    private static void loading() {
        GrinCoder x = new GrinCoder();
        for (int n : new int[] {0, -1, 9, Integer.MIN_VALUE, Integer.MAX_VALUE}) {
            Probe.due("load(1, " + n + ")", x.load(1, n), NONE);
        }
        Probe.due("load", x.load(0x77773A29L, 2), 2);
        Probe.due("load", x.load(0x0A00C9L, 3), 5);
        Probe.due("read", x.read(), 0);
        Probe.due("number", x.number(0), -5);
        // As few calls as can be reach the bound: what is written makes the most of it.
        GrinCoder y = Probe.reading(2, "F8" + "4361626364" + Probe.times("01", 1197) + "2021" + "F9");
        Probe.due("write", y.write(0), 5998);
        Probe.due("loop", y.loop(), 5998);
        Probe.due("load to 6001", y.load(0, 3), NONE);
        Probe.due("still", y.count(4), 5998);
        Probe.due("load to 6000", y.load(0, 2), 6000);
        Probe.due("load to 6001", y.load(0, 1), NONE);
        Probe.due("still", y.count(4), 6000);
        Probe.due("read", y.read(), 8);
        Probe.due("place", y.place(), 5998);
        Probe.due("none loaded", y.count(4), 0);
        Probe.due("load", y.load(0, 8), 8);
    }

    private static void looping() {
        GrinCoder x = new GrinCoder();
        x.load(1, 5);
        Probe.due("loop in place of others", x.loop(), 0);
        Probe.due("none loaded", x.count(4), 0);
        x.value(5);
        Probe.text(x, "C3A9");
        x.end();
        Probe.due("write", x.write(0), 9);
        x.load(1, 5);
        Probe.due("loop", x.loop(), 9);
        Probe.due("loop again", x.loop(), 9);
        Probe.due("loaded", x.count(4), 9);
        Probe.due("still written", x.count(5), 9);
        x.drop();
        Probe.due("read", x.read(), 0);
        Probe.due("items", Probe.items(x), "0[ 1sC3A9 0]");
        Probe.due("read of none", x.read(), 1);
    }

    private static void headFaults() {
        failsWhole("", 1, 0);
        failsWhole("3B", 1, 0);
        failsWhole("3B290A0021", 1, 0);
        failsWhole("3A", 1, 1);
        failsWhole("3A2A", 1, 1);
        failsWhole("3A2A0A0021", 1, 1);
        failsWhole("3A29", 1, 2);
        failsWhole("3A290D0021", 1, 2);
        failsWhole("3A290A", 1, 3);
        failsWhole("3A290A0821", 1, 3);
        failsWhole("3A290AFF21", 1, 3);
        failsWhole("00000000", 1, 0);
        for (int flags = 0; flags <= 7; flags++) {
            tells(flags, "21", "0n");
        }
    }

    private static void endFaults() {
        fails(0, "", 2, 4);
        fails(0, "24", 2, 5);
        fails(0, "24 01 02", 2, 7);
        fails(0, "25 00 00 00 00 00 00 00 00 00", 2, 14);
        fails(0, "28 00 00 00 00", 2, 9);
        fails(0, "29 00 00 00 00 00 00 00 00 00", 2, 14);
        fails(0, "40", 2, 5);
        fails(0, "42 FF FF", 2, 7);
        fails(0, "81 C3 A9", 2, 7);
        fails(0, "E0", 2, 5);
        fails(0, "E0 FF FF", 2, 7);
        fails(0, "E4 61", 2, 6);
        fails(0, "E8", 2, 5);
        fails(0, "E8 81 7F", 2, 7);
        fails(0, "E8 01 00", 2, 7);
        fails(4, "FD", 2, 5);
        fails(4, "FD 83 01 FF", 2, 8);
        fails(2, "EC", 2, 5);
        fails(0, "F8", 2, 5);
        fails(0, "F8 21", 2, 6);
        fails(0, "F8 F8 F9", 2, 7);
        fails(0, "FA", 2, 5);
        fails(0, "FA 80", 2, 6);
        fails(0, "FA 80 61", 2, 7);
        fails(0, "FA 80 61 21", 2, 8);
        fails(0, "FA 34 61", 2, 7);
        fails(0, "FA C0 C3", 2, 7);
        fails(1, "FA 33", 2, 6);
        // So many bytes are never there, whatever else is wrong with their number.
        fails(0, "E8 0F 7F 7F 7F BF 00", 2, 11);
        fails(0, "E8 7F 7F 7F 7F BF 00", 2, 11);
        fails(0, "E8 7F 7F 7F 7F BF 80", 3, 10);
        fails(4, "FD 0F 7F 7F 7F BF FF", 2, 11);
        fails(4, "FD 7F 7F 7F 7F BF FF", 2, 11);
    }

    private static boolean isValueSign(int b, int flags) {
        boolean told = b >= 1 && b <= 0x1F || b >= 0xEC && b <= 0xEF;
        if (told) {
            return (flags & 2) != 0;
        }
        if (b == 0xFD) {
            return (flags & 4) != 0;
        }
        return b >= 0x20 && b <= 0x25 || b == 0x28 || b == 0x29 || b >= 0x40 && b <= 0xBE
            || b >= 0xC0 && b <= 0xE0 || b == 0xE4 || b == 0xE8 || b == 0xF8 || b == 0xFA;
    }

    private static boolean isNameSign(int b, int flags) {
        boolean told = b >= 0x40 && b <= 0x7F || b >= 0x30 && b <= 0x33;
        if (told) {
            return (flags & 1) != 0;
        }
        return b == 0x20 || b == 0x34 || b >= 0x80 && b <= 0xF7 || b == 0xFB;
    }

    private static void stands(int flags, String before, int b, boolean may) {
        GrinCoder x = new GrinCoder();
        int fault = Probe.read(x, flags, before + String.format("%02X", b));
        int place = 4 + before.length() / 2;
        boolean refused = fault == 3 && x.place() == place;
        Probe.due(String.format("byte %02X behind %s with %d is refused", b, before, flags), refused ? 1 : 0,
            may ? 0 : 1);
    }

    private static void firstBytes() {
        for (int flags = 0; flags <= 7; flags++) {
            for (int b = 0; b <= 255; b++) {
                stands(flags, "", b, isValueSign(b, flags));
                stands(flags, "F8", b, isValueSign(b, flags) || b == 0xF9);
                stands(flags, "FA8061", b, isValueSign(b, flags));
                stands(flags, "FA", b, isNameSign(b, flags));
                stands(flags, "FA806121", b, isNameSign(b, flags));
                stands(flags, "FA8061F821F9", b, isNameSign(b, flags));
            }
        }
        fails(0, "F8 FB", 3, 5);
        fails(0, "FA F9", 3, 5);
        fails(0, "FA 80 61 FB", 3, 7);
        fails(0, "F8 01 00", 3, 5);
        fails(0, "EC", 3, 4);
        fails(1, "EC", 3, 4);
        fails(0, "FA 30", 3, 5);
        fails(2, "FA 30", 3, 5);
        fails(3, "FD", 3, 4);
    }

    private static void countFaults() {
        fails(0, "24 C0", 3, 5);
        fails(0, "24 FF", 3, 5);
        fails(0, "24 01 C0", 3, 6);
        fails(0, "24 00 00 00 00 7F", 3, 9);
        fails(0, "24 00 00 00 00 C0", 3, 9);
        fails(0, "24 7F 7F 7F 7F 7F BF", 3, 9);
        fails(0, "25 00 00 00 00 00 00 00 00 00 7F", 3, 14);
        fails(0, "25 00 00 00 00 00 00 00 00 00 C0", 3, 14);
        fails(0, "E8 00 00 00 00 00 80", 3, 9);
        fails(0, "E8 C1", 3, 5);
        fails(4, "FD 00 00 00 00 00 80", 3, 9);
        fails(4, "FD C1", 3, 5);
        fails(0, "28 80", 3, 5);
        fails(0, "28 10 00 00 00 80", 3, 9);
        fails(0, "29 00 00 00 00 00 00 00 00 00 FF", 3, 14);
        fails(0, "E8 81 80 00", 3, 6);
        fails(0, "E8 81 7F 80", 3, 7);
        fails(0, "E8 82 7F 80", 3, 7);
    }

    private static void textFaults() {
        fails(0, "40 80", 4, 4);
        fails(0, "41 C3 A9", 4, 4);
        fails(0, "80 C3 28", 4, 4);
        fails(0, "80 61 C3", 4, 4);
        fails(0, "81 ED A0 80", 4, 4);
        fails(0, "82 F4 90 80 80", 4, 4);
        fails(0, "E0 C3 A9 FC", 4, 4);
        fails(0, "E4 C0 80 FC", 4, 4);
        fails(0, "E4 C3 FC", 4, 4);
        fails(0, "E4 FF FC", 4, 4);
        fails(0, "81 61 FC 61", 4, 4);
        fails(0, "F8 21 40 80", 4, 6);
        fails(0, "FA 80 80", 4, 5);
        fails(0, "FA 81 C3 A9", 4, 5);
        fails(0, "FA C0 C3 28", 4, 5);
        fails(0, "FA 34 80 FC", 4, 5);
        fails(0, "FA 20 21 34 F5 FC", 4, 7);
        // All bytes of the item must be there before its text is looked at.
        fails(0, "41 80", 2, 6);
        fails(0, "E4 80", 2, 6);
    }

    private static void placeFaults() {
        fails(2, "01", 5, 4);
        fails(2, "EC 00", 5, 4);
        fails(2, "F8 40 61 02", 5, 7);
        fails(2, "F8 40 61 EC 01", 5, 7);
        fails(2, "F8 40 61 EF FF", 5, 7);
        fails(2, "F8 20 01", 5, 6);
        fails(2, "F8 E0" + Probe.times("61", 65) + "FC 01", 5, 72);
        fails(1, "FA 40", 5, 5);
        fails(1, "FA 30 00", 5, 5);
        fails(1, "FA 80 61 21 41", 5, 8);
        fails(1, "FA 20 21 40", 5, 7);
        fails(3, "FA 80 61 01", 5, 7);
        fails(3, "F8 40 61 FA 40", 5, 8);
        String many = Probe.times("4061", 258);
        fails(2, "F8" + many + "EC FE", 5, 5 + 516);
        fails(2, "F8" + many + "EC FF", 5, 5 + 516);
        fails(2, "F8" + many + "ED 02", 5, 5 + 516);
        tells(2, "F8 40 61 40 62 01 02 EC 00 EC 01 F9", "0[ 1s61 1s62 1s61 1s62 1s61 1s62 0]");
        Probe.due("places that can be told", Probe.read(new GrinCoder(), 2, "F8" + many + "1F EC FD ED 01 F9"), 0);
    }

    private static void bitFaults() {
        fails(0, "24 20 00 00 00 80", 6, 4);
        fails(0, "F8 24 7F 7F 7F 7F BF", 6, 5);
        tells(0, "24 1F 7F 7F 7F BF", "0i-2147483648");
        fails(0, "25 04 00 00 00 00 00 00 00 00 80", 6, 4);
        fails(0, "25 7F 7F 7F 7F 7F 7F 7F 7F 7F BF", 6, 4);
        tells(0, "25 03 7F 7F 7F 7F 7F 7F 7F 7F BF", "0i-9223372036854775808");
        tells(0, "25 03 7F 7F 7F 7F 7F 7F 7F 7F BE", "0i9223372036854775807");
        fails(0, "28 10 00 00 00 00", 6, 4);
        fails(0, "28 40 00 00 00 00", 6, 4);
        tells(0, "28 0F 7F 7F 7F 7F", "0r4294967295");
        fails(0, "29 02 00 00 00 00 00 00 00 00 00", 6, 4);
        fails(0, "29 40 00 00 00 00 00 00 00 00 00", 6, 4);
        tells(0, "29 01 7F 7F 7F 7F 7F 7F 7F 7F 7F", "0R-1");
        fails(0, "E8 81 7F 02", 6, 4);
        fails(0, "E8 82 7F 7F 04", 6, 4);
        fails(0, "E8 86 7F 7F 7F 7F 7F 7F 40", 6, 4);
        tells(0, "E8 86 7F 7F 7F 7F 7F 7F 3F", "0bFFFFFFFFFFFF");
        tells(0, "E8 87 7F 7F 7F 7F 7F 7F 7F 7F", "0bFFFFFFFFFFFFFF");
        tells(0, "E8 81 40 01", "0b81");
        tells(0, "E8 80", "0b");
        tells(4, "FD 80", "0b");
        tells(4, "FD 82 FC FF", "0bFCFF");
    }

    private static void roomFaults() {
        fails(0, Probe.times("F8", 31), 7, 34);
        fails(0, Probe.times("F8", 30) + "FA", 7, 34);
        fails(0, Probe.times("FA20", 30) + "F8", 7, 64);
        Probe.due("depth 30", Probe.read(new GrinCoder(), 0, Probe.times("F8", 30) + Probe.times("F9", 30)), 0);
        String most = "F8" + Probe.times("21", 1498) + "F9";
        Probe.due("1500 items", Probe.reading(0, most).count(0), 1500);
        String full = "F8" + Probe.times("21", 1499);
        for (String hex : new String[] {"F9", "21", "C0", "F8", "FA", "20", "4061", "24A0", "E880"}) {
            fails(0, full + hex, 7, 4 + 1500);
        }
        fails(0, full, 2, 1504);
        fails(0, full + "00", 3, 1504);
        fails(0, full + "40", 2, 1505);
        fails(0, full + "4080", 4, 1504);
        fails(2, full + "01", 5, 1504);
        fails(0, full + "2420000000" + "80", 6, 1504);
        String parts = "FA" + Probe.times("2021", 749);
        fails(0, parts + "20", 2, 5 + 1498 + 1);
        fails(0, parts + "2021", 7, 5 + 1498 + 1);
        tooManyBytes();
    }

    private static void tooManyBytes() {
        // 64 bytes told 78 times have 4992: 8 more are the most.
        String full = "F8" + "7F" + Probe.times("61", 64) + Probe.times("01", 77);
        int behind = 4 + full.length() / 2;
        GrinCoder x = Probe.reading(2, full + "476162636465666768" + "F9");
        Probe.due("5000 bytes", x.count(2), 5000);
        fails(2, full + "48616263646566676869", 7, behind);
        fails(2, full + "01", 7, behind);
        fails(2, full + "EC00", 7, behind);
        fails(2, full + "E0616263646566676869FC", 7, behind);
        fails(6, full + "FD89616263646566676869", 7, behind);
        fails(2, full + "E889" + Probe.times("00", 11), 7, behind);
        fails(2, full + "E889" + Probe.times("00", 10) + "04", 6, behind);
        fails(2, full + "FA" + "88616263646566676869", 7, behind + 1);
        fails(2, full + "FA" + "87" + "6162636465666768" + "4061", 7, behind + 10);
        fails(2, full + "FA" + "87" + "6162636465666768" + "20" + "20" + "20", 2, behind + 13);
        Probe.due("without a flag", Probe.read(new GrinCoder(), 0, "F8" + Probe.times("7F" + Probe.times("61", 64), 3)
            + "F9"), 0);
    }

    private static void bytesBehind() {
        fails(0, "21 21", 8, 5);
        fails(0, "F8 F9 00", 8, 6);
        fails(0, "40 61 FF", 8, 6);
        fails(0, "FA FB FB", 8, 6);
        fails(0, "E4 FC FC", 8, 6);
        fails(0, "C0" + Probe.times("00", 100), 8, 5);
    }

    private static void greaterLength() {
        tells(0, "24 80", "0i0");
        tells(0, "25 80", "0i0");
        tells(0, "24 A1", "0i-17");
        tells(0, "25 A1", "0i-17");
        tells(0, "24 00 00 00 00 81", "0i-1");
        tells(0, "25 00 00 00 00 00 00 00 00 00 82", "0i1");
        tells(0, "E0 FC", "0s");
        tells(0, "E4 FC", "0s");
        tells(0, "E0 61 FC", "0s61");
        tells(0, "E4 61 FC", "0s61");
        tells(0, "E4 C3 A9 FC", "0sC3A9");
        tells(0, "80 61 62", "0s6162");
        tells(0, "A0" + Probe.times("61", 34), "0s" + Probe.times("61", 34));
        tells(0, "BE" + Probe.times("61", 64), "0s" + Probe.times("61", 64));
        tells(0, "E4" + Probe.times("61", 65) + "FC", "0s" + Probe.times("61", 65));
        tells(0, "FA 34 FC 21 FB", "0{ 1k 1n 0]");
        tells(0, "FA 34 61 FC 21 FB", "0{ 1k61 1n 0]");
        tells(0, "FA 34 C3 A9 FC 21 FB", "0{ 1kC3A9 1n 0]");
        tells(0, "FA C0 61 62 21 FB", "0{ 1k6162 1n 0]");
        tells(0, "FA F7" + Probe.times("61", 57) + "21 FB", "0{ 1k" + Probe.times("61", 57) + " 1n 0]");
        tells(0, "E8 00 00 00 00 81 7F 01", "0bFF");
        tells(4, "FD 00 00 00 00 81 FF", "0bFF");
        tells(4, "E8 81 7F 01", "0bFF");
        tells(3, "FA 80 61 40 62 80 61 40 62 30 00 EC 01 FB", "0{ 1k61 1s62 1k61 1s62 1k61 1s62 0]");
    }

    private static void tablesWhileReading() {
        // All that is told in full comes into the tables, however it is told.
        tells(2, "F8 E0 61 FC E4 62 FC 80 63 63 20 E0 FC 01 02 03 F9",
            "0[ 1s61 1s62 1s6363 1s 1s 1s61 1s62 1s6363 0]");
        tells(1, "FA 34 61 FC 21 C0 62 62 21 20 21 34 FC 21 40 21 41 21 FB",
            "0{ 1k61 1n 1k6262 1n 1k 1n 1k 1n 1k61 1n 1k6262 1n 0]");
        String long8 = Probe.times("C3A9", 32);
        tells(1, "FA 34" + long8 + "FC 21 40 21 FB", "0{ 1k" + long8 + " 1n 1k" + long8 + " 1n 0]");
        String far = Probe.times("61", 65);
        tells(2, "F8 E0" + far + "FC 40 62 01 F9", "0[ 1s" + far + " 1s62 1s62 0]");
        // What is told by a place does not come into the table again.
        fails(2, "F8 40 61 01 02", 5, 8);
        // The same again in full takes a place of its own.
        tells(2, "F8 40 61 40 61 40 62 03 02 F9", "0[ 1s61 1s61 1s62 1s62 1s61 0]");
        tells(3, "F8 FA 80 61 40 62 FB FA 40 01 FB F9", "0[ 1{ 2k61 2s62 1] 1{ 2k61 2s62 1] 0]");
        String all = "F8" + Probe.times("4061", 1024);
        GrinCoder x = Probe.reading(2, all + "01 EF FD 4062 01 F9");
        Probe.due("emptied", Probe.bytesOf(x, 1028), "62");
        GrinCoder y = new GrinCoder();
        Probe.due("emptied", Probe.read(y, 2, all + "4062 02 F9"), 5);
        Probe.due("place", y.place(), 5 + 2048 + 2);
        GrinCoder z = new GrinCoder();
        Probe.due("a table is new each time", Probe.read(z, 2, "4061"), 0);
        Probe.due("a table is new each time", Probe.read(z, 2, "01"), 5);
    }

    private static void whatStays() {
        GrinCoder x = new GrinCoder();
        x.value(6);
        Probe.name(x, "61");
        Probe.type(x, "7A");
        Probe.due("fault", Probe.read(x, 0, "F8 21 21 FF"), 3);
        Probe.due("place", x.place(), 7);
        Probe.due("an open document stays", Probe.items(x), "0{ 1k61");
        Probe.due("so does what is typed", x.count(3), 1);
        Probe.due("and it goes on", x.value(3), 3);
        Probe.due("end", x.end(), 4);
        Probe.due("read", Probe.read(x, 0, "C2"), 0);
        Probe.due("place", x.place(), NONE);
        Probe.due("another document", Probe.items(x), "0i1");
        Probe.due("it is whole", x.value(0), NONE);
        Probe.due("fault", Probe.read(x, 0, "FF"), 3);
        Probe.due("place", x.place(), 4);
        x.value(0);
        x.load(0, 1);
        Probe.due("place of the latest read", x.place(), 4);
        Probe.due("a whole document stays", Probe.items(x), "0i1");
        x.drop();
        Probe.due("place of the latest read", x.place(), 4);
        x.loop();
        Probe.due("read", Probe.read(x, 0, "F8 F9"), 0);
        Probe.due("bytes", x.count(2), 0);
        Probe.due("fault", Probe.read(x, 2, "40 61 00"), 8);
        Probe.due("no bytes of what failed", x.count(2), 0);
        Probe.due("items", Probe.items(x), "0[ 0]");
    }
}
