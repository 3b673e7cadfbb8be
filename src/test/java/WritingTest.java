/** Promises 9 and 10, and how a document is written. */
final class WritingTest {
    private static final int NONE = GrinCoder.NONE;
    private static final int FULL = GrinCoder.FULL;

    public static void main(String[] args) {
        singles();
        integers();
        reals();
        texts();
        bytes();
        names();
        tellingTexts();
        tellingNames();
        tablesOfTheirOwn();
        placesThatCantBeTold();
        tableIsEmptied();
        refusals();
        tooLong();
        Probe.finish();
    }

    private static void singles() {
        String[] signs = {"21", "22", "23", "20", "E880", "F8F9", "FAFB"};
        for (int kind = 0; kind <= 6; kind++) {
            GrinCoder x = new GrinCoder();
            x.value(kind);
            x.end();
            for (int flags = 0; flags <= 7; flags++) {
                String due = kind == 4 && flags >= 4 ? "FD80" : signs[kind];
                Probe.due("kind " + kind, Probe.written(x, flags), due);
            }
        }
    }

    private static void writesInteger(long v, String due) {
        GrinCoder x = new GrinCoder();
        x.integer(v);
        Probe.due("integer " + v, Probe.written(x, 7), Probe.hex(due));
    }

    private static void integers() {
        writesInteger(0, "C0");
        writesInteger(-1, "C1");
        writesInteger(1, "C2");
        writesInteger(15, "DE");
        writesInteger(-16, "DF");
        writesInteger(16, "24 A0");
        writesInteger(-17, "24 A1");
        writesInteger(31, "24 BE");
        writesInteger(-32, "24 BF");
        writesInteger(32, "24 01 80");
        writesInteger(4095, "24 7F BE");
        writesInteger(-4096, "24 7F BF");
        writesInteger(4096, "24 01 00 80");
        writesInteger(Integer.MAX_VALUE, "24 1F 7F 7F 7F BE");
        writesInteger(Integer.MIN_VALUE, "24 1F 7F 7F 7F BF");
        writesInteger(Integer.MAX_VALUE + 1L, "25 20 00 00 00 80");
        writesInteger(Integer.MIN_VALUE - 1L, "25 20 00 00 00 81");
        writesInteger(Long.MAX_VALUE, "25 03 7F 7F 7F 7F 7F 7F 7F 7F BE");
        writesInteger(Long.MIN_VALUE, "25 03 7F 7F 7F 7F 7F 7F 7F 7F BF");
    }

    private static void reals() {
        GrinCoder x = new GrinCoder();
        x.value(5);
        x.real(0, 0);
        x.real(0xFFFFFFFFL, 0);
        x.real(0x3F800000L, 0);
        x.real(0, 1);
        x.real(-1, 1);
        x.real(0x3FF0000000000001L, 1);
        x.end();
        Probe.due("reals", Probe.written(x, 0), Probe.hex("F8 28 00 00 00 00 00 28 0F 7F 7F 7F 7F"
            + "28 03 7C 00 00 00 29 00 00 00 00 00 00 00 00 00 00 29 01 7F 7F 7F 7F 7F 7F 7F 7F 7F"
            + "29 00 3F 78 00 00 00 00 00 00 01 F9"));
    }

    private static void writesText(String hex, String before, String behind) {
        GrinCoder x = new GrinCoder();
        Probe.text(x, hex);
        Probe.due("text", Probe.written(x, 2), before + hex + behind);
    }

    private static void texts() {
        writesText("00", "40", "");
        writesText("7F", "40", "");
        writesText(Probe.times("61", 2), "41", "");
        writesText(Probe.times("61", 32), "5F", "");
        writesText(Probe.times("61", 33), "60", "");
        writesText(Probe.times("61", 64), "7F", "");
        writesText(Probe.times("61", 65), "E0", "FC");
        writesText(Probe.times("61", 200), "E0", "FC");
        writesText("C3A9", "80", "");
        writesText("61C3A9", "81", "");
        writesText("61" + Probe.times("C3A9", 16), "9F", "");
        writesText(Probe.times("C3A9", 17), "A0", "");
        writesText(Probe.times("C3A9", 32), "BE", "");
        writesText("61" + Probe.times("C3A9", 32), "E4", "FC");
        writesText(Probe.times("61", 64) + "C3A9", "E4", "FC");
    }

    private static void writesBytes(String hex, String packed) {
        GrinCoder x = new GrinCoder();
        Probe.raw(x, hex);
        String count = String.format("%02X", 0x80 + hex.length() / 2);
        Probe.due("bytes", Probe.written(x, 3), "E8" + count + Probe.hex(packed));
        Probe.due("raw bytes", Probe.written(x, 4), "FD" + count + hex);
    }

    private static void bytes() {
        writesBytes("", "");
        writesBytes("00", "00 00");
        writesBytes("FF", "7F 01");
        writesBytes("81", "40 01");
        writesBytes("0102", "00 40 02");
        writesBytes("FFFF", "7F 7F 03");
        writesBytes("FFFFFF", "7F 7F 7F 07");
        writesBytes("FFFFFFFFFFFF", "7F 7F 7F 7F 7F 7F 3F");
        writesBytes("FFFFFFFFFFFFFF", "7F 7F 7F 7F 7F 7F 7F 7F");
        writesBytes("01020304050607", "00 40 40 30 20 14 0C 07");
        writesBytes("0102030405060708", "00 40 40 30 20 14 0C 07 04 00");
        GrinCoder x = new GrinCoder();
        Probe.raw(x, Probe.times("FD", 64));
        Probe.due("64 bytes", Probe.written(x, 4), "FD0180" + Probe.times("FD", 64));
    }

    private static void writesName(String hex, String before, String behind) {
        GrinCoder x = new GrinCoder();
        x.value(6);
        Probe.name(x, hex);
        x.value(0);
        x.end();
        Probe.due("name", Probe.written(x, 1), "FA" + before + hex + behind + "21FB");
        Probe.due("name", Probe.written(x, 0), "FA" + before + hex + behind + "21FB");
    }

    private static void names() {
        writesName("", "20", "");
        writesName("61", "80", "");
        writesName(Probe.times("61", 64), "BF", "");
        writesName(Probe.times("61", 65), "34", "FC");
        writesName("C3A9", "C0", "");
        writesName("61" + Probe.times("C3A9", 28), "F7", "");
        writesName(Probe.times("C3A9", 29), "34", "FC");
        writesName(Probe.times("C3A9", 32), "34", "FC");
        writesName("61" + Probe.times("C3A9", 32), "34", "FC");
    }

    private static void tellingTexts() {
        String full = Probe.times("61", 64);
        String full8 = Probe.times("C3A9", 32);
        String far = Probe.times("62", 65);
        GrinCoder x = new GrinCoder();
        x.value(5);
        for (String hex : new String[] {"", "78", "78", full, full, full8, full8, far, far, "", "78"}) {
            Probe.text(x, hex);
        }
        x.end();
        Probe.due("told", Probe.written(x, 2), "F8" + "20" + "4078" + "01" + "7F" + full + "02" + "BE" + full8
            + "03" + "E0" + far + "FC" + "E0" + far + "FC" + "20" + "01" + "F9");
        String notTold = "F8" + "20" + "4078" + "4078" + "7F" + full + "7F" + full + "BE" + full8
            + "BE" + full8 + "E0" + far + "FC" + "E0" + far + "FC" + "20" + "4078" + "F9";
        Probe.due("not told", Probe.written(x, 0), notTold);
        x.write(5);
        Probe.due("not told, other flags", Probe.writtenFrom(x, 4), notTold);
    }

    private static void tellingNames() {
        String full = Probe.times("61", 64);
        String full8 = Probe.times("C3A9", 32);
        String short8 = Probe.times("C3A9", 29);
        String far = Probe.times("62", 65);
        GrinCoder x = new GrinCoder();
        x.value(6);
        for (String hex : new String[] {"", "78", "78", full, full, full8, full8, short8, short8, far, far, ""}) {
            Probe.name(x, hex);
            x.value(0);
        }
        x.end();
        Probe.due("told", Probe.written(x, 1), "FA" + "2021" + "807821" + "4021" + "BF" + full + "21" + "4121"
            + "34" + full8 + "FC21" + "4221" + "34" + short8 + "FC21" + "4321"
            + "34" + far + "FC21" + "34" + far + "FC21" + "2021" + "FB");
    }

    private static void tablesOfTheirOwn() {
        GrinCoder x = new GrinCoder();
        x.value(6);
        for (String hex : new String[] {"61", "62", "61"}) {
            Probe.name(x, hex);
            Probe.text(x, "62".equals(hex) ? "61" : "62");
        }
        x.end();
        Probe.due("none", Probe.written(x, 0), "FA 8061 4062 8062 4061 8061 4062 FB".replace(" ", ""));
        Probe.due("names", Probe.written(x, 1), "FA 8061 4062 8062 4061 40 4062 FB".replace(" ", ""));
        Probe.due("texts", Probe.written(x, 2), "FA 8061 4062 8062 4061 8061 01 FB".replace(" ", ""));
        Probe.due("both", Probe.written(x, 3), "FA 8061 4062 8062 4061 40 01 FB".replace(" ", ""));
        Probe.due("again", Probe.written(x, 3), "FA 8061 4062 8062 4061 40 01 FB".replace(" ", ""));
    }

    /** Text k of many that are not the same, of two bytes. */
    private static String twoBytes(int k) {
        return String.format("%02X%02X", 0x20 + k / 64, 0x30 + k % 64);
    }

    private static void placesThatCantBeTold() {
        StringBuilder first = new StringBuilder();
        for (int k = 0; k <= 256; k++) {
            first.append("41").append(twoBytes(k));
        }
        int[] again = {0, 30, 31, 253, 254, 254, 255, 255, 256, 254};
        String[] due = {"01", "1F", "EC1F", "ECFD", "41" + twoBytes(254), "ED01", "41" + twoBytes(255), "ED02",
            "ED00", "ED01"};
        StringBuilder more = new StringBuilder();
        for (int k : again) {
            more.append("41").append(twoBytes(k));
        }
        GrinCoder x = Probe.reading(0, "F8" + first + more + "F9");
        x.write(2);
        Probe.due("places", Probe.writtenFrom(x, 5 + 257 * 3), String.join("", due) + "F9");
        // Twice at places that can't be told, then at one that can be.
        String same = "41" + twoBytes(254);
        GrinCoder y = Probe.reading(0, "F8" + first.substring(0, 254 * 6) + Probe.times(same, 4) + "F9");
        y.write(2);
        Probe.due("places", Probe.writtenFrom(y, 5 + 254 * 3), Probe.times(same, 3) + "ED00F9");
        namePlaces();
    }

    private static void namePlaces() {
        StringBuilder names = new StringBuilder();
        for (int k = 0; k <= 256; k++) {
            names.append("81").append(twoBytes(k)).append("21");
        }
        int[] again = {0, 63, 64, 253, 254, 254, 256};
        String[] due = {"40", "7F", "3040", "30FD", "81" + twoBytes(254), "3101", "3100"};
        for (int k : again) {
            names.append("81").append(twoBytes(k)).append("21");
        }
        GrinCoder x = Probe.reading(0, "FA" + names + "FB");
        x.write(1);
        Probe.due("name places", Probe.writtenFrom(x, 5 + 257 * 4), String.join("21", due) + "21FB");
    }

    private static void tableIsEmptied() {
        StringBuilder all = new StringBuilder();
        for (int k = 0; k < 1024; k++) {
            all.append("41").append(twoBytes(k));
        }
        String first = "41" + twoBytes(0);
        String other = "427A7A7A";
        String told = "41" + twoBytes(1021);
        GrinCoder x = Probe.reading(2, "F8" + all + first + told + other + first + other + first + told + "F9");
        x.write(2);
        Probe.due("emptied", Probe.writtenFrom(x, 5 + 1024 * 3),
            "01" + "EFFD" + other + first + "01" + "02" + told + "F9");
    }

    private static void refusals() {
        GrinCoder x = new GrinCoder();
        Probe.due("write of none", x.write(0), NONE);
        x.integer(5);
        Probe.due("write", x.write(1), 5);
        for (int flags : new int[] {-1, 8, 9, 16, Integer.MIN_VALUE, Integer.MAX_VALUE}) {
            Probe.due("write(" + flags + ")", x.write(flags), NONE);
        }
        x.drop();
        Probe.due("write of none", x.write(0), NONE);
        x.value(5);
        Probe.due("write of an open one", x.write(0), NONE);
        Probe.due("what was written stays", Probe.writtenFrom(x, 0), "3A290A01CA");
        Probe.due("count(5)", x.count(5), 5);
        for (int k : new int[] {-1, 5, 6, Integer.MIN_VALUE, Integer.MAX_VALUE}) {
            Probe.due("written(" + k + ")", x.written(k), NONE);
        }
        x.end();
        Probe.due("a shorter and then a longer one", x.write(0), 6);
        Probe.due("as written", Probe.writtenFrom(x, 0), "3A290A00F8F9");
    }

    private static void tooLong() {
        // 4 bytes each: 5 are written for each where no places are told.
        GrinCoder x = Probe.reading(2, "F8" + "4361626364" + Probe.times("01", 1197) + "2021" + "F9");
        Probe.due("write to 5998", x.write(0), 4 + 1 + 1198 * 5 + 2 + 1);
        Probe.due("written", x.written(5997), 0xF9);
        GrinCoder y = Probe.reading(2, "F8" + "4361626364" + Probe.times("01", 1197) + "20212223" + "F9");
        Probe.due("write to 6000", y.write(0), 6000);
        Probe.due("written", y.written(5999), 0xF9);
        GrinCoder z = Probe.reading(2, "F8" + "4361626364" + Probe.times("01", 1197) + "2021222321" + "F9");
        int told = z.write(2);
        Probe.due("write with places", told, 4 + 1 + 5 + 1197 + 5 + 1);
        Probe.due("write to 6001", z.write(0), FULL);
        Probe.due("write to 6001", z.write(5), FULL);
        Probe.due("what was written stays", z.count(5), told);
        Probe.due("what was written stays", z.written(3), 2);
        Probe.due("what was written stays", z.written(told - 1), 0xF9);
        Probe.due("none behind", z.written(told), NONE);
        Probe.due("write with places", z.write(2), told);
    }
}
