/** "Terms", its first words: which bytes are texts, which values there are, and a document's limits. */
final class TermsDocumentTest {
    private static final int NONE = GrinCoder.NONE;

    public static void main(String[] args) {
        textsAreUtf8();
        upTo10FFFF();
        noneOfD800();
        asShortAsCanBe();
        asciiBelow128();
        singleValues();
        integersAreLongs();
        realsOfTwoWidths();
        textsAndBytes();
        arraysOfValues();
        objectsOfParts();
        namesMayBeTheSame();
        oneValue();
        withinEachOther();
        withinEachOtherRead();
        items();
        itemsOfEachSort();
        bytesOfAll();
        bytesEachTime();
        bytesOfAllMade();
        Probe.finish();
    }

    /** Whether bytes are a text, in each way in which a text can come. */
    private static void isText(String hex, boolean is) {
        Run text = new Run();
        Probe.due("value(3) of " + hex, text.text(hex), is ? 1 : NONE);
        Run name = new Run();
        name.value(6);
        Probe.due("name() of " + hex, name.name(hex), is ? 2 : NONE);
        if (hex.contains("FC")) {
            return;
        }
        Probe.due("read() of text " + hex, new Run().reads(0, "E4" + hex + "FC"), is ? 0 : 4);
        Probe.due("read() of name " + hex, new Run().reads(0, "FA34" + hex + "FC21FB"), is ? 0 : 4);
        int n = hex.length() / 2;
        if (n >= 2 && n <= 33) {
            Probe.due("read() of short text " + hex, new Run().reads(0, Probe.hex(0x80 + n - 2) + hex), is ? 0 : 4);
            String part = "FA" + Probe.hex(0xC0 + n - 2) + hex + "21FB";
            Probe.due("read() of short name " + hex, new Run().reads(0, part), is ? 0 : 4);
        }
    }

    private static void areTexts(String... rows) {
        for (String hex : rows) {
            isText(hex, true);
            isText("61" + hex + "62", true);
        }
    }

    private static void areNoTexts(String... rows) {
        for (String hex : rows) {
            isText(hex, false);
            isText("61" + hex + "62", false);
        }
    }

    private static void textsAreUtf8() {
        Probe.sentence("Terms", "TEXTS are bytes: UTF-8 of characters");
        areTexts("", "00", "61", "C3A9", "E282AC", "F09F9880", "C3A9E282ACF09F9880", "E0BFBF", "F0BFBFBF");
        // One byte too few, a byte that goes on with nothing, and one that does not go on.
        areNoTexts("C3", "E2", "E282", "F0", "F09F", "F09F98", "80", "BF", "C3A9A9", "E282AC80", "F09F988080");
        areNoTexts("C37F", "C3C0", "E27F80", "E2C080", "E2827F", "E282C0", "F07F9880", "F0C09880", "F09F7F80",
            "F09FC080", "F09F987F", "F09F98C0", "C3C3A9", "E07F80", "E0C080", "ED7F80", "EDC080", "F0C08080",
            "F47F8080", "F4C08080");
        areNoTexts("FC", "FE", "FF", "FC8080808080");
        // What would go on with a character stands behind the text already.
        Probe.due("a character cut by its text's end", new Run().reads(0, "F8 80 61 C3 A9 F9"), 4);
        Probe.due("a character cut by its name's end", new Run().reads(0, "FA C0 61 C3 A9 F9"), 4);
    }

    private static void upTo10FFFF() {
        Probe.sentence("Terms", "(up to 10FFFF,");
        areTexts("F3BFBFBF", "F4808080", "F48FBFBF");
        areNoTexts("F4908080", "F4BFBFBF", "F5808080", "F7BFBFBF", "F8888080", "F888808080");
    }

    private static void noneOfD800() {
        Probe.sentence("Terms", "none of D800 .. DFFF,");
        areTexts("ECBFBF", "ED8080", "ED9FBF", "EE8080");
        areNoTexts("EDA080", "EDAFBF", "EDB080", "EDBFBF", "EDA080EDB080");
    }

    private static void asShortAsCanBe() {
        Probe.sentence("Terms", "each as short as it can be)");
        areTexts("7F", "C280", "DFBF", "E0A080", "EFBFBF", "F0908080");
        areNoTexts("C080", "C0BF", "C180", "C1BF", "E08080", "E09FBF", "F0808080", "F08FBFBF");
    }

    private static void asciiBelow128() {
        Probe.sentence("Terms", "ASCII, if all are below 128.");
        Run ascii = new Run();
        ascii.text("7F7F");
        Probe.due("127, written", ascii.writes(0), "417F7F");
        Run other = new Run();
        other.text("C280");
        Probe.due("128 and more, written", other.writes(0), "80C280");
        for (String hex : new String[] {"61C280", "C28061"}) {
            Run mixed = new Run();
            mixed.text(hex);
            Probe.due("one of 128 and more, written", mixed.writes(0), "81" + hex);
        }
        Probe.due("127 as ASCII", new Run().reads(0, "40 7F"), 0);
        Probe.due("128 as ASCII", new Run().reads(0, "40 80"), 4);
        Probe.due("127 as a long one", new Run().reads(0, "E0 7F FC"), 0);
        Probe.due("128 and more as a long one", new Run().reads(0, "E0 C2 80 FC"), 4);
        Probe.due("127 as a name", new Run().reads(0, "FA 80 7F 21 FB"), 0);
        Probe.due("128 as a name", new Run().reads(0, "FA 80 80 21 FB"), 4);
    }

    private static void singleValues() {
        Probe.sentence("Terms", "VALUES: null, false, true;");
        String[] items = {"0n", "0f", "0t"};
        for (int kind = 0; kind <= 2; kind++) {
            Run x = new Run();
            Probe.due("value(" + kind + ")", x.value(kind), 1);
            Probe.due("made", x.items(), items[kind]);
            x.write(0);
            x.loop();
            x.drop();
            Probe.due("read()", x.read(), 0);
            Probe.due("read again", x.items(), items[kind]);
            Probe.due("without bytes", x.count(2), 0);
        }
    }

    private static void integersAreLongs() {
        Probe.sentence("Terms", "INTEGERS (longs)");
        Run x = new Run();
        x.value(5);
        long[] edges = {0, -1, 1, Integer.MAX_VALUE, Integer.MIN_VALUE, Integer.MAX_VALUE + 1L, Integer.MIN_VALUE - 1L,
            Long.MAX_VALUE, Long.MIN_VALUE};
        for (int k = 0; k < edges.length; k++) {
            Probe.due("integer(" + edges[k] + ")", x.integer(edges[k]), k + 2);
        }
        x.end();
        x.write(0);
        x.loop();
        Probe.due("read()", x.read(), 0);
        for (int k = 0; k < edges.length; k++) {
            Probe.due("integer(" + edges[k] + "), read again", x.number(k + 1), edges[k]);
        }
    }

    private static void realsOfTwoWidths() {
        Probe.sentence("Terms", "REALS of 32 or 64 bits (their bits as a number)");
        Run x = new Run();
        x.value(5);
        long[] narrow = {0, 1, 0x7FC00000L, 0x80000000L, 0xFFFFFFFFL};
        long[] wide = {0, 1, 0xFFFFFFFFL, 0x100000000L, Long.MAX_VALUE, Long.MIN_VALUE, -1};
        for (long bits : narrow) {
            x.real(bits, 0);
        }
        for (long bits : wide) {
            x.real(bits, 1);
        }
        x.end();
        String items = "0[ 1r0 1r1 1r2143289344 1r2147483648 1r4294967295 1R0 1R1 1R4294967295 1R4294967296"
            + " 1R9223372036854775807 1R-9223372036854775808 1R-1 0]";
        Probe.due("reals", x.items(), items);
        x.write(0);
        x.loop();
        Probe.due("read()", x.read(), 0);
        Probe.due("reals, read again", x.items(), items);
    }

    private static void textsAndBytes() {
        Probe.sentence("Terms", "texts; BYTES;");
        // The same bytes are two values, and stay so.
        Run x = new Run();
        x.value(5);
        for (String hex : new String[] {"", "61", "C3A9"}) {
            x.text(hex);
            x.bytes(hex);
        }
        x.end();
        String items = "0[ 1s 1b 1s61 1b61 1sC3A9 1bC3A9 0]";
        Probe.due("made", x.items(), items);
        for (int flags = 0; flags <= 7; flags++) {
            x.write(flags);
            x.loop();
            Probe.due("read()", x.read(), 0);
            Probe.due("read again", x.items(), items);
        }
        // Bytes may be any, those that no text has too.
        StringBuilder all = new StringBuilder();
        for (int b = 0; b <= 255; b++) {
            all.append(Probe.hex(b));
        }
        for (int flags = 0; flags <= 4; flags += 4) {
            Run y = new Run();
            y.bytes(all.toString());
            y.write(flags);
            y.loop();
            y.drop();
            Probe.due("read()", y.read(), 0);
            Probe.due("read again", y.items(), "0b" + all);
        }
    }

    private static void arraysOfValues() {
        Probe.sentence("Terms", "an ARRAY of values;");
        Run x = new Run();
        Probe.due("an array", x.value(5), 1);
        Probe.due("a name in it", x.name("61"), NONE);
        Probe.due("without a value", x.end(), 2);
        Probe.due("items", x.items(), "0[ 0]");
        Probe.due("empty, read", Run.of(0, "F8F9").items(), "0[ 0]");
        Probe.due("of arrays, read", Run.of(0, "F8 F8 F9 FA FB 21 F9").items(), "0[ 1[ 1] 1{ 1] 1n 0]");
    }

    private static void objectsOfParts() {
        Probe.sentence("Terms", "an OBJECT of parts, each a NAME, a text, and a value");
        Run x = new Run();
        Probe.due("an object", x.value(6), 1);
        Probe.due("a value without a name", x.value(0), NONE);
        Probe.due("without a part", x.copy().end(), 2);
        Probe.due("a name", x.name("61"), 2);
        Probe.due("a name without a value", x.name("62"), NONE);
        Probe.due("an end instead of a value", x.end(), NONE);
        Probe.due("a value", x.value(3), 3);
        Probe.due("an end", x.end(), 4);
        Probe.due("empty, read", Run.of(0, "FAFB").items(), "0{ 0]");
        Probe.due("an end instead of a value, read", new Run().reads(0, "FA 80 61 FB"), 3);
    }

    private static void namesMayBeTheSame() {
        Probe.sentence("Terms", "(names may be the same)");
        Run x = new Run();
        x.value(6);
        for (int k = 0; k < 3; k++) {
            Probe.due("the name again", x.name("61"), 2 * k + 2);
            x.integer(k);
        }
        x.end();
        Probe.due("items", x.items(), "0{ 1k61 1i0 1k61 1i1 1k61 1i2 0]");
        Probe.due("read", Run.of(0, "FA 8061 C0 8061 C2 FB").items(), "0{ 1k61 1i0 1k61 1i1 0]");
    }

    private static void oneValue() {
        Probe.sentence("Terms", "A DOCUMENT is one value;");
        Run x = new Run();
        Probe.due("one", x.integer(1), 1);
        Probe.due("two", x.integer(2), NONE);
        Probe.due("none, read", new Run().reads(0, ""), 2);
        Probe.due("one, read", new Run().reads(0, "21"), 0);
        Probe.due("two, read", new Run().reads(0, "2121"), 8);
    }

    private static void withinEachOther() {
        Probe.sentence("Terms", "at most 30 arrays and objects are within each other;");
        Run x = new Run();
        for (int k = 1; k <= 30; k++) {
            Probe.due(k + " within each other", x.value(k % 2 == 0 ? 5 : 6), k + k / 2);
            if (k % 2 == 1) {
                x.name("61");
            }
        }
        String before = x.state();
        Probe.due("array 31", x.value(5), NONE);
        Probe.due("object 31", x.value(6), NONE);
        Probe.due("nothing is done", x.state(), before);
        Probe.due("a value in the 30th", x.value(0), 46);
        Probe.due("its depth", x.item(45, 2), 30);
        x.end();
        Probe.due("a name in the 29th", x.name("62"), 48);
        Probe.due("the 30th again", x.value(6), 49);
        x.name("63");
        Probe.due("array 31 again", x.value(5), NONE);
        x.value(1);
        Probe.due("an end of the 30th", x.end(), 52);
        Run arrays = new Run();
        Run objects = new Run();
        for (int k = 1; k <= 30; k++) {
            Probe.due("array " + k, arrays.value(5), k);
            Probe.due("object " + k, objects.value(6), 2 * k - 1);
            objects.name();
        }
        Probe.due("array 31", arrays.value(5), NONE);
        Probe.due("object in array 30", arrays.value(6), NONE);
        Probe.due("object 31", objects.value(6), NONE);
        Probe.due("array in object 30", objects.value(5), NONE);
    }

    private static void withinEachOtherRead() {
        Probe.sentence("Terms", "at most 30 arrays and objects are within each other;");
        Probe.due("30, read", new Run().reads(0, Probe.times("F8", 30) + Probe.times("F9", 30)), 0);
        Probe.due("31, read", new Run().reads(0, Probe.times("F8", 31) + Probe.times("F9", 31)), 7);
        String parts = Probe.times("FA20", 30);
        Probe.due("30 objects, read", new Run().reads(0, parts + "21" + Probe.times("FB", 30)), 0);
        Probe.due("31 objects, read", new Run().reads(0, parts + "FA" + Probe.times("FB", 31)), 7);
        Probe.due("array in 30 objects, read", new Run().reads(0, parts + "F8"), 7);
        String again = Probe.times("F8", 29) + Probe.times("F8F9FAFB", 3) + Probe.times("F9", 29);
        Probe.due("30 again and again, read", new Run().reads(0, again), 0);
    }

    private static void items() {
        Probe.sentence("Terms", "it has at most 1500 ITEMS:");
        Run most = Run.of(0, "F8" + Probe.times("21", 1498) + "F9");
        Probe.due("items", most.count(0), 1500);
        Probe.due("last item", most.item(1499, 0), 11);
        Probe.due("one behind it", most.item(1500, 0), NONE);
        Run more = new Run();
        Probe.due("1501 items", more.reads(0, "F8" + Probe.times("21", 1499) + "F9"), 7);
        Probe.due("place", more.place(), 4 + 1500);
        String[] others = {"20", "22", "C0", "24A0", "280000000000", "4061", "E0FC", "E880", "F8", "FA"};
        for (String hex : others) {
            Run x = new Run();
            Probe.due("item 1501: " + hex, x.reads(0, "F8" + Probe.times("21", 1499) + hex), 7);
            Probe.due("its place", x.place(), 4 + 1500);
        }
    }

    private static void itemsOfEachSort() {
        Probe.sentence("Terms", "each value, each name, each end of an array or object, in order.");
        Probe.due("in order", Run.of(0, "F8 21 FA 8061 F8 F9 FB C0 F9").items(), "0[ 1n 1{ 2k61 2[ 2] 1] 1i0 0]");
        Run names = Run.of(0, "FA" + Probe.times("2021", 749) + "FB");
        Probe.due("1500 with names", names.count(0), 1500);
        Run more = new Run();
        Probe.due("1501 with names", more.reads(0, "FA" + Probe.times("2021", 749) + "2021FB"), 7);
        Probe.due("it is the value", more.place(), 4 + 1 + 2 * 749 + 1);
        Run nameTooMany = new Run();
        Probe.due("name as item 1501", nameTooMany.reads(0, "F82121FA" + Probe.times("2021", 748) + "20"), 7);
        Probe.due("it is the name", nameTooMany.place(), 4 + 4 + 2 * 748);
        Run ends = Run.of(0, "F8" + Probe.times("F8F9", 749) + "F9");
        Probe.due("1500 with ends", ends.count(0), 1500);
        Run endTooMany = new Run();
        Probe.due("end as item 1501", endTooMany.reads(0, "F8" + Probe.times("FAFB", 749) + "FAFB"), 7);
        Probe.due("it is the end", endTooMany.place(), 4 + 1 + 2 * 749 + 1);
    }

    /** 4992 bytes of texts in an open array, with 64 bytes at place 0. */
    private static String nearlyFull() {
        return "F8" + "7F" + Probe.times("61", 64) + Probe.times("01", 77);
    }

    private static void bytesOfAll() {
        Probe.sentence("Terms", "All its texts and bytes (each time) have at most 5000 bytes.");
        String[] fit = {"476162636465666768", "E06162636465666768FC", "80C3A9" + "82C3A9C3A9" + "416162",
            "E888" + Probe.times("00", 10), "FD88" + Probe.times("00", 8), "FA876162636465666768" + "21FB",
            "FA8361626364" + "FD8401020304" + "FB", "476162636465666768" + "20E880FD80FA2020FB"};
        String[] tooLong = {"48616263646566676869", "E0616263646566676869FC", "80C3A9" + "82C3A9C3A9" + "42616263",
            "E889" + Probe.times("00", 11), "FD89" + Probe.times("00", 9), "FA88616263646566676869" + "21FB",
            "FA8361626364" + "FD850102030405" + "FB", "476162636465666768" + "4061"};
        for (int k = 0; k < fit.length; k++) {
            Run x = Run.of(7, nearlyFull() + fit[k] + "F9");
            Probe.due("bytes with " + fit[k], x.count(2), 5000);
            Run y = new Run();
            Probe.due("5001 bytes or more with " + tooLong[k], y.reads(7, nearlyFull() + tooLong[k] + "F9"), 7);
            Probe.due("no document", y.count(0), 0);
        }
    }

    private static void bytesEachTime() {
        Probe.sentence("Terms", "(each time)");
        // Texts and names that are told by places count as if they stood there.
        String text = "67" + Probe.times("61", 40);
        Probe.due("5000 bytes", Run.of(3, "F8" + text + Probe.times("01", 124) + "F9").count(2), 5000);
        Run more = new Run();
        Probe.due("5001 bytes", more.reads(3, "F8" + text + "4062" + Probe.times("01", 124) + "F9"), 7);
        Probe.due("the last place", more.place(), 4 + 1 + 41 + 2 + 123);
        String name = "A7" + Probe.times("61", 40);
        Run names = Run.of(3, "FA" + name + "21" + Probe.times("4021", 124) + "FB");
        Probe.due("5000 bytes of names", names.count(2), 5000);
        Run moreNames = new Run();
        String parts = "FA" + name + "4062" + Probe.times("4021", 124) + "FB";
        Probe.due("5001 bytes of names", moreNames.reads(3, parts), 7);
        Probe.due("the last name", moreNames.place(), 4 + 1 + 41 + 2 + 2 * 123);
    }

    private static void bytesOfAllMade() {
        Probe.sentence("Terms", "All its texts and bytes (each time) have at most 5000 bytes.");
        // Making can't reach the limit in 512 calls: it must not be met before.
        Run x = new Run();
        x.value(6);
        for (int k = 1; k <= 4; k++) {
            Probe.due("900 bytes", x.types(Probe.times("61", 900)), 900);
            Probe.due("name or value", k % 2 == 1 ? x.name() : x.value(k == 2 ? 3 : 4), k + 1);
        }
        Probe.due("bytes", x.count(2), 3600);
        x.types(Probe.times("62", 400));
        Probe.due("name", x.name(), 6);
        Probe.due("bytes", x.count(2), 4000);
    }
}
