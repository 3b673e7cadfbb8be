/** "Terms", FAULTS: each of them, where it begins, and which of two is met first. */
final class TermsFaultsTest {
    private static final int ALL_FLAGS = 7;

    public static void main(String[] args) {
        firstOneMet();
        head();
        bytesEnd();
        bytesEndInEachItem();
        bytesThatCantStandThere();
        endsThatCantStandThere();
        inACount();
        atACountsLastPlace();
        amongBits();
        placesWithoutTheirFlag();
        rawWithoutItsFlag();
        whenAllBytesAreThere();
        noSuchText();
        notAscii();
        placesWithNothing();
        placesThatCantBeTold();
        countsOfTooManyBits();
        countsOfBytesWithTooManyBits();
        realsOfTooManyBits();
        bitsThatAreLeft();
        roomWhenAllBytesAreThere();
        roomWhenNoneOf4To6Is();
        noRoom();
        bytesBehind();
        Probe.finish();
    }

    /** The fault, and its place, of what stands behind a head that is right; 0 when there is none. */
    private static void fault(int flags, String hex, int fault, int place) {
        faultOfAll(Probe.head(flags) + hex, fault, place);
    }

    private static void faultOfAll(String hex, int fault, int place) {
        Run x = new Run();
        x.loads(hex);
        Probe.due("read() of " + Probe.brief(hex), x.read(), fault);
        Probe.due("place() of " + Probe.brief(hex), x.place(), place);
        Probe.due("count(0) behind " + Probe.brief(hex), x.count(0) == 0 ? 0 : 1, fault == 0 ? 1 : 0);
    }

    private static void good(int flags, String hex) {
        fault(flags, hex, 0, GrinCoder.NONE);
    }

    private static void firstOneMet() {
        Probe.sentence("Terms", "FAULTS, the first one met:");
        faultOfAll("3A2A0A08FF", 1, 1);
        fault(0, "F8 4080 00", 4, 5);
        fault(0, "F8 00 4080", 3, 5);
        fault(2, "F8 01 4080", 5, 5);
        fault(2, "F8 4080 01", 4, 5);
        fault(0, "F8 2420000000 80 4080", 6, 5);
        fault(0, Probe.times("F8", 31) + "00", 7, 34);
        fault(0, "F8 40 80", 4, 5);
        fault(0, "F8 F9 00", 8, 6);
        fault(0, "F8 00 F9 00", 3, 5);
        fault(0, "F8 21", 2, 6);
    }

    private static void head() {
        Probe.sentence("Terms", "1 one of the first four bytes is another one, or missing;");
        int[] right = {0x3A, 0x29, 0x0A};
        for (int k = 0; k < 3; k++) {
            for (int b = 0; b <= 255; b++) {
                StringBuilder hex = new StringBuilder();
                for (int j = 0; j < 3; j++) {
                    hex.append(Probe.hex(j == k ? b : right[j]));
                }
                boolean same = b == right[k];
                faultOfAll(hex + "0021", same ? 0 : 1, same ? GrinCoder.NONE : k);
            }
        }
        for (int flags = 0; flags <= 255; flags++) {
            faultOfAll("3A290A" + Probe.hex(flags) + "21", flags <= ALL_FLAGS ? 0 : 1,
                flags <= ALL_FLAGS ? GrinCoder.NONE : 3);
        }
        faultOfAll("", 1, 0);
        faultOfAll("3A", 1, 1);
        faultOfAll("3A29", 1, 2);
        faultOfAll("3A290A", 1, 3);
        faultOfAll("3A290A00", 2, 4);
        faultOfAll("3B", 1, 0);
        faultOfAll("3A2A", 1, 1);
        faultOfAll("3A290B", 1, 2);
        faultOfAll("3A290A08", 1, 3);
    }

    private static void bytesEnd() {
        Probe.sentence("Terms", "2 the bytes end;");
        // Every form of every item: cut anywhere, the bytes end there.
        String all = Probe.plainHex("FA 20 21 8061 22 C1C3A961 23 3461FC C5 40 249F 3001 250181 42 280102030405"
            + "816263 2901020304050607080900 8063 F8 20 4061 60" + Probe.times("62", 33) + "80C3A9 A0"
            + Probe.times("C3A9", 17) + "E061FC E4C3A9FC E8837F7F7F07 FD82FFFC 01 EC01 F8F9 FAFB F9 FB");
        String whole = Probe.head(ALL_FLAGS) + all;
        for (int n = 0; n < whole.length() / 2; n++) {
            faultOfAll(whole.substring(0, 2 * n), n < 4 ? 1 : 2, n);
        }
        faultOfAll(whole, 0, GrinCoder.NONE);
    }

    private static void bytesEndInEachItem() {
        Probe.sentence("Terms", "2 the bytes end;");
        fault(0, "", 2, 4);
        String[] rows = {"24 01 02 03 04", "25 00 00 00 00 00 00 00 00 00", "28 00 00 00 00", "29 00 00 00 00 00 00 00 00 00",
            "40", "5F" + Probe.times("61", 31), "60" + Probe.times("61", 32), "7F" + Probe.times("61", 63), "80 61",
            "9F" + Probe.times("61", 32), "BE" + Probe.times("61", 63), "E0", "E0 61", "E4", "E4 C3A9", "E8", "E8 81 7F",
            "E8 87 00000000000000", "E8 01", "FD", "FD 81", "FD 83 0102", "EC", "EF", "F8", "F8 F8F9", "FA", "FA 80",
            "FA BF" + Probe.times("61", 63), "FA C0 C3", "FA F7" + Probe.times("61", 56), "FA 34", "FA 34 61", "FA 30",
            "FA 33", "FA 20", "FA 8061", "FA 8061 21", "FA 8061 F8 F9"};
        for (String hex : rows) {
            fault(ALL_FLAGS, hex, 2, 4 + Probe.plainHex(hex).length() / 2);
        }
        // A number of bytes that are never there.
        fault(0, "E8 0F 7F 7F 7F BF 00", 2, 11);
        fault(4, "FD 0F 7F 7F 7F BF 00", 2, 11);
        fault(4, "FD 08 00 00 00 80 00", 2, 11);
    }

    private static boolean isValueSign(int b, int flags) {
        boolean told = b >= 1 && b <= 0x1F || b >= 0xEC && b <= 0xEF;
        if (told) {
            return (flags & 2) != 0;
        }
        if (b == 0xFD) {
            return (flags & 4) != 0;
        }
        return b >= 0x20 && b <= 0x25 || b == 0x28 || b == 0x29 || b >= 0x40 && b <= 0xBE
            || b >= 0xC0 && b <= 0xE0 || b == 0xE4 || b == 0xE8 || b == 0xF8 || b == 0xFA;
    }

    private static boolean isNameSign(int b, int flags) {
        boolean told = b >= 0x40 && b <= 0x7F || b >= 0x30 && b <= 0x33;
        if (told) {
            return (flags & 1) != 0;
        }
        return b == 0x20 || b == 0x34 || b >= 0x80 && b <= 0xF7 || b == 0xFB;
    }

    private static void stands(int flags, String before, int b, boolean may) {
        Run x = new Run();
        int fault = x.reads(flags, before + Probe.hex(b));
        boolean refused = fault == 3 && x.place() == 4 + before.length() / 2;
        Probe.due("byte " + Probe.hex(b) + " behind " + before + " with flags " + flags + " can't stand there",
            refused ? 1 : 0, may ? 0 : 1);
    }

    private static void bytesThatCantStandThere() {
        Probe.sentence("Terms", "3 a byte that can't stand there:");
        for (int flags = 0; flags <= ALL_FLAGS; flags++) {
            for (int b = 0; b <= 255; b++) {
                stands(flags, "", b, isValueSign(b, flags));
                stands(flags, "F8", b, isValueSign(b, flags) || b == 0xF9);
                stands(flags, "F821", b, isValueSign(b, flags) || b == 0xF9);
                stands(flags, "FA8061", b, isValueSign(b, flags));
                stands(flags, "FA", b, isNameSign(b, flags));
                stands(flags, "FA806121", b, isNameSign(b, flags));
                stands(flags, "FA8061F821F9", b, isNameSign(b, flags));
            }
        }
    }

    private static void endsThatCantStandThere() {
        Probe.sentence("Terms", "3 a byte that can't stand there:");
        fault(0, "F9", 3, 4);
        fault(0, "FB", 3, 4);
        fault(0, "F8 FB", 3, 5);
        fault(0, "FA F9", 3, 5);
        fault(0, "FA 20 FB", 3, 6);
        fault(0, "FA 20 F9", 3, 6);
        fault(0, "F8 FA 20 F8 F9 F9", 3, 9);
        fault(0, "F8 FA FB FB", 3, 7);
    }

    /** A sign, one byte less than its count may have, and what goes on behind a count of 2 or 3. */
    private static final String[][] COUNTS = {
        {"24", "00000000", ""},
        {"25", "000000000000000000", ""},
        {"E8", "00000000", "00000000"},
        {"FD", "00000000", "000000"},
    };

    private static void inACount() {
        Probe.sentence("Terms", "also one of C0 or more in a count,");
        for (String[] count : COUNTS) {
            for (int n = 0; n <= count[1].length(); n += 2) {
                String before = count[0] + count[1].substring(0, n);
                int place = 4 + before.length() / 2;
                good(ALL_FLAGS, before + "83" + count[2]);
                for (int b = 0xC0; b <= 0xFF; b++) {
                    fault(ALL_FLAGS, before + Probe.hex(b) + count[2], 3, place);
                }
            }
        }
        good(0, "24 BF");
        fault(0, "24 C0", 3, 5);
        good(0, "E8 BF" + Probe.times("00", 72));
        fault(0, "E8 C0" + Probe.times("00", 72), 3, 5);
        good(4, "FD BF" + Probe.times("00", 63));
        fault(4, "FD C0" + Probe.times("00", 63), 3, 5);
    }

    private static void atACountsLastPlace() {
        Probe.sentence("Terms", "or one below 80 at a count's last place;");
        for (String[] count : COUNTS) {
            String before = count[0] + count[1];
            int last = 4 + before.length() / 2;
            for (int b = 0; b <= 0x7F; b++) {
                fault(ALL_FLAGS, before + Probe.hex(b) + "83" + count[2], 3, last);
                fault(ALL_FLAGS, before + Probe.hex(b), 3, last);
            }
            good(ALL_FLAGS, before + "83" + count[2]);
        }
        // Before its last place, a count may have such bytes, but not end.
        good(0, "24 00 00 00 7F 80");
        good(0, "25 00 00 00 00 00 00 00 00 7F 80");
        fault(0, "24 00 00 00 7F", 2, 9);
        fault(0, "25 00 00 00 00 00 00 00 00 7F", 2, 14);
        fault(0, "E8 00 00 00 7F", 2, 9);
        fault(4, "FD 00 00 00 7F", 2, 9);
    }

    private static void amongBits() {
        Probe.sentence("Terms", "one of 80 or more among bits;");
        String[] signs = {"28", "29", "E887", "E885"};
        int[] bytes = {5, 10, 8, 6};
        for (int k = 0; k < signs.length; k++) {
            for (int n = 0; n < bytes[k]; n++) {
                String before = signs[k] + Probe.times("00", n);
                String behind = Probe.times("00", bytes[k] - n - 1);
                int place = 4 + before.length() / 2;
                boolean most = n > 0 && n < bytes[k] - 1 || k == 2;
                good(0, before + (most ? "7F" : "01") + behind);
                for (int b : new int[] {0x80, 0x81, 0xBF, 0xC0, 0xFC, 0xFF}) {
                    fault(0, before + Probe.hex(b) + behind, 3, place);
                    fault(0, before + Probe.hex(b), 3, place);
                }
            }
        }
    }

    private static void placesWithoutTheirFlag() {
        Probe.sentence("Terms", "a place in a table whose flag is not set;");
        for (int flags = 0; flags <= ALL_FLAGS; flags++) {
            boolean names = (flags & 1) != 0;
            boolean texts = (flags & 2) != 0;
            for (String hex : new String[] {"01", "EC00"}) {
                String before = "F84061";
                fault(flags, before + hex + "F9", texts ? 0 : 3, texts ? GrinCoder.NONE : 7);
            }
            for (String hex : new String[] {"40", "3000"}) {
                String before = "FA806121";
                fault(flags, before + hex + "21FB", names ? 0 : 3, names ? GrinCoder.NONE : 8);
            }
            // The sign alone is wrong, whether its second byte is there or not.
            fault(flags, "F84061EC", texts ? 2 : 3, texts ? 8 : 7);
            fault(flags, "FA80612130", names ? 2 : 3, names ? 9 : 8);
        }
    }

    private static void rawWithoutItsFlag() {
        Probe.sentence("Terms", "FD without its flag;");
        for (int flags = 0; flags <= ALL_FLAGS; flags++) {
            boolean raw = (flags & 4) != 0;
            fault(flags, "FD81FF", raw ? 0 : 3, raw ? GrinCoder.NONE : 4);
            fault(flags, "FD", raw ? 2 : 3, raw ? 5 : 4);
            good(flags, "E8817F01");
        }
    }

    private static void whenAllBytesAreThere() {
        Probe.sentence("Terms", "then, when all bytes of an item are there,");
        fault(0, "41 80", 2, 6);
        fault(0, "41 80 61", 4, 4);
        fault(0, "E0 80", 2, 6);
        fault(0, "E0 80 FC", 4, 4);
        fault(0, "FA 34 80", 2, 7);
        fault(0, "FA 34 80 FC", 4, 5);
        fault(2, "EC", 2, 5);
        fault(2, "EC 00", 5, 4);
        fault(1, "FA 30", 2, 6);
        fault(1, "FA 30 00", 5, 5);
        fault(0, "24 7F 7F 7F 7F", 2, 9);
        fault(0, "24 7F 7F 7F 7F C0", 3, 9);
        fault(0, "24 7F 7F 7F 7F 80", 6, 4);
        fault(0, "28 7F 00 00 00", 2, 9);
        fault(0, "28 7F 00 00 00 80", 3, 9);
        fault(0, "28 7F 00 00 00 00", 6, 4);
        fault(0, "29 7F 00 00 00 00 00 00 00 00", 2, 14);
        fault(0, "29 7F 00 00 00 00 00 00 00 00 80", 3, 14);
        fault(0, "29 7F 00 00 00 00 00 00 00 00 00", 6, 4);
    }

    private static void noSuchText() {
        Probe.sentence("Terms", "4 bytes that are no such text,");
        good(0, "80 C3A9");
        fault(0, "80 C3C3", 4, 4);
        fault(0, "9F" + Probe.times("61", 32) + "80", 4, 4);
        fault(0, "A0" + Probe.times("61", 33) + "80", 4, 4);
        fault(0, "BE" + Probe.times("61", 63) + "80", 4, 4);
        good(0, "E4 C3A9 FC");
        fault(0, "E4 C3 FC", 4, 4);
        fault(0, "E4 FF FC", 4, 4);
        fault(0, "F8 21 E4 80 FC", 4, 6);
        good(0, "FA C0 C3A9 21 FB");
        fault(0, "FA C0 C3C3", 4, 5);
        fault(0, "FA F7" + Probe.times("61", 56) + "80", 4, 5);
        fault(0, "FA 34 C3 FC", 4, 5);
        fault(0, "FA 20 21 34 80 FC", 4, 7);
        // FC within a text of known length is one of its bytes.
        fault(0, "81 61 FC 61", 4, 4);
    }

    private static void notAscii() {
        Probe.sentence("Terms", "or not ASCII;");
        String before = Probe.times("61", 31);
        good(0, "5F" + before + "7F");
        fault(0, "5F" + before + "80", 4, 4);
        good(0, "60" + before + "6162");
        fault(0, "60" + before + "C3A9", 4, 4);
        fault(0, "7F" + "C3A9" + Probe.times("61", 62), 4, 4);
        good(0, "E0 61 7F FC");
        fault(0, "E0 61 C3A9 FC", 4, 4);
        good(0, "FA 81 617F 21 FB");
        fault(0, "FA 81 C3A9 21 FB", 4, 5);
        fault(0, "FA BF" + Probe.times("61", 62) + "C3A9 21 FB", 4, 5);
    }

    private static void placesWithNothing() {
        Probe.sentence("Terms", "5 a place at which nothing is,");
        fault(2, "01", 5, 4);
        fault(2, "1F", 5, 4);
        good(2, "F8 4061 01 F9");
        fault(2, "F8 4061 02 F9", 5, 7);
        good(2, "F8 4061 EC00 F9");
        fault(2, "F8 4061 EC01 F9", 5, 7);
        fault(2, "F8 4061 ED00 F9", 5, 7);
        fault(2, "F8 4061 EFFD F9", 5, 7);
        String texts = "F8" + Probe.times("4061", 257);
        good(2, texts + "ED00 F9");
        fault(2, texts + "ED01 F9", 5, 4 + 1 + 2 * 257);
        fault(1, "FA 40", 5, 5);
        good(1, "FA 8061 21 40 21 FB");
        fault(1, "FA 8061 21 41 21 FB", 5, 8);
        good(1, "FA 8061 21 3000 21 FB");
        fault(1, "FA 8061 21 3001 21 FB", 5, 8);
        fault(1, "FA 8061 21 3300 21 FB", 5, 8);
        String names = "FA" + Probe.times("806121", 64);
        good(1, names + "7F21FB");
        fault(1, names + "304021FB", 5, 4 + 1 + 3 * 64);
    }

    private static void placesThatCantBeTold() {
        Probe.sentence("Terms", "or that can't be told;");
        String texts = "F8" + Probe.times("4061", 1024);
        int place = 4 + 1 + 2 * 1024;
        for (String high : new String[] {"EC", "ED", "EE", "EF"}) {
            good(2, texts + high + "FDF9");
            fault(2, texts + high + "FEF9", 5, place);
            fault(2, texts + high + "FFF9", 5, place);
            good(2, texts + high + "00F9");
        }
        String names = "FA" + Probe.times("806121", 700);
        for (String high : new String[] {"30", "31"}) {
            good(1, names + high + "FD21FB");
            fault(1, names + high + "FE21FB", 5, 4 + 1 + 3 * 700);
            fault(1, names + high + "FF21FB", 5, 4 + 1 + 3 * 700);
        }
        good(1, names + "320021FB");
    }

    private static void countsOfTooManyBits() {
        Probe.sentence("Terms", "6 a count of more than 32 bits (25: 64),");
        good(0, "24 1F 7F 7F 7F BF");
        fault(0, "24 20 00 00 00 80", 6, 4);
        fault(0, "24 7F 7F 7F 7F BF", 6, 4);
        fault(0, "F8 24 20 00 00 00 80 F9", 6, 5);
        good(0, "25 20 00 00 00 80");
        good(0, "25 03 7F 7F 7F 7F 7F 7F 7F 7F BF");
        fault(0, "25 04 00 00 00 00 00 00 00 00 80", 6, 4);
        fault(0, "25 40 00 00 00 00 00 00 00 00 80", 6, 4);
        fault(0, "25 7F 7F 7F 7F 7F 7F 7F 7F 7F BF", 6, 4);
    }

    private static void countsOfBytesWithTooManyBits() {
        Probe.sentence("Terms", "6 a count of more than 32 bits (25: 64),");
        // So many bytes can't be loaded: the item's bytes end before its count is looked at.
        fault(0, "E8 20 00 00 00 80 00", 2, 11);
        fault(0, "E8 7F 7F 7F 7F BF 00", 2, 11);
        fault(0, "E8 20 00 00 00 80 80", 3, 10);
        fault(4, "FD 20 00 00 00 80 00", 2, 11);
        fault(4, "FD 7F 7F 7F 7F BF 00", 2, 11);
    }

    private static void realsOfTooManyBits() {
        Probe.sentence("Terms", "bits of a real over its 32 or 64,");
        good(0, "28 0F 7F 7F 7F 7F");
        fault(0, "28 10 00 00 00 00", 6, 4);
        fault(0, "28 20 00 00 00 00", 6, 4);
        fault(0, "28 40 00 00 00 00", 6, 4);
        good(0, "29 01 7F 7F 7F 7F 7F 7F 7F 7F 7F");
        for (int b = 2; b <= 0x7F; b++) {
            fault(0, "29" + Probe.hex(b) + Probe.times("00", 9), 6, 4);
        }
    }

    private static void bitsThatAreLeft() {
        Probe.sentence("Terms", "or others than those that are left in the last byte of bits;");
        for (int n = 1; n <= 16; n++) {
            int bytes = (8 * n + 6) / 7;
            int left = 8 * n - 7 * (bytes - 1);
            String before = "E8" + Probe.hex(0x80 + n) + Probe.times("7F", bytes - 1);
            for (int b = 0; b <= 0x7F; b++) {
                boolean fits = b < 1 << left;
                fault(0, before + Probe.hex(b), fits ? 0 : 6, fits ? GrinCoder.NONE : 4);
            }
        }
        good(0, "E8 80");
    }

    private static void roomWhenAllBytesAreThere() {
        Probe.sentence("Terms", "7, when all bytes of the item are there,");
        String items = "F8" + Probe.times("21", 1499);
        fault(0, items, 2, 1504);
        fault(0, items + "40", 2, 1505);
        fault(0, items + "4061", 7, 1504);
        fault(0, items + "E061", 2, 1506);
        fault(0, items + "E061FC", 7, 1504);
        fault(0, items + "00", 3, 1504);
        fault(0, items + "FB", 3, 1504);
        fault(0, items + "24C0", 3, 1505);
        fault(0, items + "2800000000", 2, 1509);
        fault(0, items + "280000000000", 7, 1504);
        fault(2, items + "EC", 2, 1505);
        String bytes = nearlyFull();
        int behind = 4 + bytes.length() / 2;
        fault(6, bytes + "FD89" + Probe.times("00", 8), 2, behind + 10);
        fault(6, bytes + "FD89" + Probe.times("00", 9), 7, behind);
        fault(6, bytes + "E889" + Probe.times("00", 10), 2, behind + 12);
        fault(6, bytes + "E889" + Probe.times("00", 10) + "80", 3, behind + 12);
        fault(6, bytes + "E889" + Probe.times("00", 11), 7, behind);
        fault(6, bytes + "48" + Probe.times("61", 8), 2, behind + 9);
    }

    private static void roomWhenNoneOf4To6Is() {
        Probe.sentence("Terms", "and none of 4 to 6 is:");
        String items = "F8" + Probe.times("21", 1499);
        fault(0, items + "4080", 4, 1504);
        fault(0, items + "E080FC", 4, 1504);
        fault(2, items + "01", 5, 1504);
        fault(2, items + "EC00", 5, 1504);
        fault(0, items + "242000000080", 6, 1504);
        fault(0, items + "281000000000", 6, 1504);
        fault(0, items + "E8817F02", 6, 1504);
        String bytes = nearlyFull();
        int behind = 4 + bytes.length() / 2;
        fault(6, bytes + "48" + Probe.times("61", 8) + "80", 4, behind);
        fault(6, bytes + "02", 5, behind);
        fault(6, bytes + "E889" + Probe.times("00", 10) + "04", 6, behind);
    }

    /** 4992 bytes of texts in an open array, with 64 bytes at place 0. */
    private static String nearlyFull() {
        return "F8" + "7F" + Probe.times("61", 64) + Probe.times("01", 77);
    }

    private static void noRoom() {
        Probe.sentence("Terms", "the document would have more items, bytes, or within each other;");
        good(0, "F8" + Probe.times("21", 1498) + "F9");
        fault(0, "F8" + Probe.times("21", 1499) + "F9", 7, 4 + 1500);
        int behind = 4 + nearlyFull().length() / 2;
        good(2, nearlyFull() + "47" + Probe.times("61", 8) + "F9");
        fault(2, nearlyFull() + "48" + Probe.times("61", 9) + "F9", 7, behind);
        fault(2, nearlyFull() + "01" + "F9", 7, behind);
        good(2, nearlyFull() + "FA87" + Probe.times("61", 8) + "20FBF9");
        fault(2, nearlyFull() + "FA88" + Probe.times("61", 9) + "20FBF9", 7, behind + 1);
        good(0, Probe.times("F8", 30) + Probe.times("F9", 30));
        fault(0, Probe.times("F8", 31) + Probe.times("F9", 31), 7, 4 + 30);
        fault(0, Probe.times("F8", 30) + "FAFB", 7, 4 + 30);
        fault(0, Probe.times("FA20", 30) + "F8", 7, 4 + 60);
    }

    private static void bytesBehind() {
        Probe.sentence("Terms", "8 a byte behind the value.");
        for (int b = 0; b <= 255; b++) {
            fault(ALL_FLAGS, "21" + Probe.hex(b), 8, 5);
        }
        String[] wholes = {"20", "C0", "24A0", "280000000000", "4061", "E061FC", "E8817F01", "FD81FF", "F8F9", "FAFB",
            "F8F8F9F9", "FA802021FB"};
        for (String hex : wholes) {
            good(ALL_FLAGS, hex);
            fault(ALL_FLAGS, hex + "FC", 8, 4 + hex.length() / 2);
            fault(ALL_FLAGS, hex + Probe.times("00", 20), 8, 4 + hex.length() / 2);
        }
        String most = "F8" + Probe.times("21", 1498) + "F9";
        good(0, most);
        fault(0, most + "21", 8, 4 + 1500);
    }
}
