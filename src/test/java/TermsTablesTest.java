/** "Terms", TABLES: what comes into them, when they are emptied, and what is told by its place. */
final class TermsTablesTest {
    public static void main(String[] args) {
        emptyAtFirst();
        namesAndTexts();
        withItsFlag();
        textsOf1To64();
        namesOf1To64();
        writtenInFull();
        emptiedAt1024();
        toldByTheLeast();
        toldWhenTheSame();
        placesThatCantBeTold();
        lastPlacesThatCantBeTold();
        placesOfNames();
        placesOfTexts();
        Probe.finish();
    }

    private static Run array(String... texts) {
        Run x = new Run();
        x.value(5);
        for (String hex : texts) {
            x.text(hex);
        }
        x.end();
        return x;
    }

    private static Run object(String... names) {
        Run x = new Run();
        x.value(6);
        for (String hex : names) {
            x.name(hex);
            x.value(0);
        }
        x.end();
        return x;
    }

    private static void emptyAtFirst() {
        Probe.sentence("Terms", "TABLES, empty at first,");
        Run x = array("61", "61");
        Probe.due("written", x.writes(2), "F8406101F9");
        Probe.due("written again", x.writes(2), "F8406101F9");
        Run y = object("61", "61");
        Probe.due("names, written", y.writes(1), "FA8061214021FB");
        Probe.due("names, written again", y.writes(1), "FA8061214021FB");
        y.loop();
        Probe.due("read what was written", y.read(), 0);
        Probe.due("written what was read", y.writes(1), "FA8061214021FB");
        for (String hex : new String[] {"01", "EC00", "FA40", "FA3000"}) {
            Run z = array("61", "61");
            z.write(3);
            Probe.due("read() of a place behind write()", z.reads(3, hex), 5);
            Probe.due("read() of a text and a name", z.reads(3, "FA80614061FB"), 0);
            Probe.due("read() of a place behind read()", z.reads(3, hex), 5);
        }
    }

    private static void namesAndTexts() {
        Probe.sentence("Terms", "one of names, one of texts that are values:");
        Run x = new Run();
        x.value(6);
        for (String hex : new String[] {"61", "62", "61"}) {
            x.name(hex);
            x.text("62".equals(hex) ? "61" : "62");
        }
        x.end();
        Probe.due("both", x.writes(3), "FA" + "80614062" + "80624061" + "4001" + "FB");
        Run y = new Run();
        y.value(5);
        y.bytes("61");
        y.text("61");
        y.bytes("61");
        y.text("61");
        y.end();
        Probe.due("bytes are no texts", y.writes(6), "F8" + "FD8161" + "4061" + "FD8161" + "01" + "F9");
        Probe.due("a text is no name, read", new Run().reads(3, "F84061FA40"), 5);
        Probe.due("a name is no text, read", new Run().reads(3, "FA806101"), 5);
    }

    private static void withItsFlag() {
        Probe.sentence("Terms", "with its flag");
        Run x = new Run();
        x.value(6);
        for (int k = 0; k < 2; k++) {
            x.name("61");
            x.text("62");
        }
        x.end();
        for (int flags = 0; flags <= 7; flags++) {
            String name = (flags & 1) != 0 ? "40" : "8061";
            String text = (flags & 2) != 0 ? "01" : "4062";
            Probe.due("flags " + flags, x.writes(flags), "FA80614062" + name + text + "FB");
        }
    }

    private static void textsOf1To64() {
        Probe.sentence("Terms", "each one of 1 .. 64 bytes that is written in full is put behind all in its"
            + " table (at place 0, 1, ..);");
        String ascii = Probe.times("61", 64);
        String other = Probe.times("C3A9", 32);
        String tooLong = Probe.times("62", 65);
        String otherTooLong = "62" + Probe.times("C3A9", 32);
        Run x = array("", "63", ascii, tooLong, other, otherTooLong, "64", "", "63", ascii, tooLong, other, otherTooLong,
            "64");
        String longs = "E0" + tooLong + "FC";
        String otherLongs = "E4" + otherTooLong + "FC";
        Probe.due("texts", x.writes(2), "F8" + "20" + "4063" + "7F" + ascii + longs + "BE" + other + otherLongs + "4064"
            + "20" + "01" + "02" + longs + "03" + otherLongs + "04" + "F9");
    }

    private static void namesOf1To64() {
        Probe.sentence("Terms", "each one of 1 .. 64 bytes that is written in full is put behind all in its"
            + " table (at place 0, 1, ..);");
        String ascii = Probe.times("61", 64);
        String other = Probe.times("C3A9", 32);
        String short8 = Probe.times("C3A9", 28);
        String tooLong = Probe.times("62", 65);
        String otherTooLong = "62" + Probe.times("C3A9", 32);
        Run x = object("", "63", ascii, tooLong, other, otherTooLong, short8, "", "63", ascii, tooLong, other,
            otherTooLong, short8);
        String longs = "34" + tooLong + "FC21";
        String otherLongs = "34" + otherTooLong + "FC21";
        Probe.due("names", x.writes(1), "FA" + "2021" + "806321" + "BF" + ascii + "21" + longs + "34" + other + "FC21"
            + otherLongs + "F6" + short8 + "21"
            + "2021" + "4021" + "4121" + longs + "4221" + otherLongs + "4321" + "FB");
    }

    private static void writtenInFull() {
        Probe.sentence("Terms", "that is written in full");
        // What is told by its place does not come again: the next one in full gets the next place.
        Run x = array("61", "61", "61", "62", "61", "62");
        Probe.due("texts", x.writes(2), "F8" + "4061" + "01" + "01" + "4062" + "01" + "02" + "F9");
        Run y = object("61", "61", "62", "61", "62");
        Probe.due("names", y.writes(1), "FA" + "806121" + "4021" + "806221" + "4021" + "4121" + "FB");
    }

    /** Texts from .. to - 1 of many, in full. */
    private static String texts(int from, int to) {
        StringBuilder all = new StringBuilder();
        for (int k = from; k < to; k++) {
            all.append(text(k));
        }
        return all.toString();
    }

    private static String text(int k) {
        return "41" + Probe.twoBytes(k);
    }

    /** Reads texts in full, and writes them with places: what stands behind the first n of them. */
    private static void textsBehind(int n, String more, String due) {
        Run x = Run.of(0, "F8" + texts(0, n) + more + "F9");
        x.write(2);
        Probe.due("behind " + n + " texts", x.writtenFrom(5 + 3 * n), due + "F9");
        x.loop();
        Probe.due("read again", x.read(), 0);
        Run plain = x.copy();
        Probe.due("written in full again", plain.write(0), 4 + 1 + 3 * n + more.length() / 2 + 1);
        Probe.due("as before", plain.writtenFrom(5 + 3 * n), more + "F9");
    }

    private static void emptiedAt1024() {
        Probe.sentence("Terms", "when there are 1024, that is emptied before.");
        String other = "427A7A7A";
        textsBehind(1023, text(0) + text(1021), "01" + "EFFD");
        // The 1024th comes behind all the others ..
        textsBehind(1023, other + text(0) + text(30), other + "01" + "1F");
        textsBehind(1024, text(0) + text(1021), "01" + "EFFD");
        // .. and the 1025th comes first.
        textsBehind(1024, text(0) + other + other + text(0) + text(0) + text(1021) + text(1021),
            "01" + other + "01" + text(0) + "02" + text(1021) + "03");
    }

    private static void toldByTheLeast() {
        Probe.sentence("Terms", "One that stands in it at a place that can be TOLD is told by that instead: the"
            + " least one;");
        textsBehind(3, text(0) + text(1) + text(2) + text(0), "01" + "02" + "03" + "01");
        // At 254 and 255, which can't be told, then at 256: this is the least one.
        String same = text(254);
        textsBehind(254, Probe.times(same, 5), Probe.times(same, 3) + "ED00" + "ED00");
    }

    private static void toldWhenTheSame() {
        Probe.sentence("Terms", "One that stands in it at a place that can be TOLD is told by that instead:");
        // One byte more, or one byte that is another one, makes it another text.
        for (int k = 2000; k < 2400; k++) {
            String some = Probe.twoBytes(k);
            StringBuilder texts = new StringBuilder("41" + some);
            StringBuilder places = new StringBuilder("01");
            for (int place = 1; place <= 128; place++) {
                String one = Probe.hex(place - 1);
                texts.append("42").append(k % 2 == 0 ? some + one : one + some);
                places.append(place < 31 ? Probe.hex(1 + place) : "EC" + Probe.hex(place));
            }
            Run x = Run.of(0, "F8" + texts + texts + "F9");
            Probe.due("texts with " + some, x.writes(2), "F8" + texts + places + "F9");
        }
    }

    private static void placesThatCantBeTold() {
        Probe.sentence("Terms", "these are all but those whose lowest 8 bits are FE or FF.");
        for (int high = 1; high <= 3; high++) {
            int n = 256 * high + 1;
            int fe = 256 * high - 2;
            String before = Probe.hex(0xEC + high - 1);
            String behind = Probe.hex(0xEC + high);
            String more = text(fe - 1) + text(fe) + text(fe) + text(fe + 1) + text(fe + 1) + text(fe + 2) + text(fe);
            textsBehind(n, more, before + "FD" + text(fe) + behind + "01" + text(fe + 1) + behind + "02" + behind + "00"
                + behind + "01");
        }
        Run x = Run.of(0, "FA" + names(0, 257) + name(253) + name(254) + name(254) + name(255) + name(255) + name(256)
            + "FB");
        x.write(1);
        Probe.due("names", x.writtenFrom(5 + 4 * 257), "30FD21" + name(254) + "310121" + name(255) + "310221" + "310021"
            + "FB");
    }

    private static void lastPlacesThatCantBeTold() {
        Probe.sentence("Terms", "these are all but those whose lowest 8 bits are FE or FF.");
        // Written in full again, what stands at 1022 or 1023 finds the table full, and empties it.
        textsBehind(1024, text(1021) + text(1022) + text(1022) + text(0) + text(1023),
            "EFFD" + text(1022) + "01" + text(0) + text(1023));
        textsBehind(1024, text(1023) + text(1023) + text(1022), text(1023) + "01" + text(1022));
    }

    private static String name(int k) {
        return "81" + Probe.twoBytes(k) + "21";
    }

    private static String names(int from, int to) {
        StringBuilder all = new StringBuilder();
        for (int k = from; k < to; k++) {
            all.append(name(k));
        }
        return all.toString();
    }

    private static void placesOfNames() {
        Probe.sentence("Terms", "Of names: 40 + the place below 64; others 30 + the place / 256, its lowest 8"
            + " bits.");
        int[] places = {0, 1, 62, 63, 64, 65, 253, 256, 257, 509, 512, 700, 730};
        String[] due = {"40", "41", "7E", "7F", "3040", "3041", "30FD", "3100", "3101", "31FD", "3200", "32BC", "32DA"};
        StringBuilder more = new StringBuilder();
        for (int k : places) {
            more.append(name(k));
        }
        Run x = Run.of(0, "FA" + names(0, 731) + more + "FB");
        x.write(1);
        Probe.due("names", x.writtenFrom(5 + 4 * 731), String.join("21", due) + "21FB");
        x.loop();
        Probe.due("read again", x.read(), 0);
        for (int k = 0; k < places.length; k++) {
            Probe.due("name told by " + due[k], x.bytesOf(1 + 2 * (731 + k)), Probe.twoBytes(places[k]));
        }
    }

    private static void placesOfTexts() {
        Probe.sentence("Terms", "Of texts: 1 + the place below 31; others EC + the place / 256, its lowest 8"
            + " bits.");
        int[] places = {0, 1, 29, 30, 31, 32, 63, 64, 253, 256, 509, 512, 765, 768, 1021};
        String[] due = {"01", "02", "1E", "1F", "EC1F", "EC20", "EC3F", "EC40", "ECFD", "ED00", "EDFD", "EE00", "EEFD",
            "EF00", "EFFD"};
        StringBuilder more = new StringBuilder();
        for (int k : places) {
            more.append(text(k));
        }
        textsBehind(1024, more.toString(), String.join("", due));
    }
}
