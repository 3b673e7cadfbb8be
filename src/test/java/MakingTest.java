/** Promises 1 to 8: how a document is made. */
final class MakingTest {
    private static final int NONE = GrinCoder.NONE;

    public static void main(String[] args) {
        newObject();
        typing();
        values();
        typedTexts();
        integers();
        reals();
        names();
        ends();
        drops();
        tooManyItems();
        tooManyBytes();
        tooDeep();
        Probe.finish();
    }

    private static void newObject() {
        GrinCoder x = new GrinCoder();
        for (int what = 0; what <= 5; what++) {
            Probe.due("new count(" + what + ")", x.count(what), 0);
        }
        Probe.due("new place()", x.place(), NONE);
        Probe.due("new item(0, 0)", x.item(0, 0), NONE);
        Probe.due("new written(0)", x.written(0), NONE);
        Probe.due("new check()", x.check(), 1);
        Probe.due("new drop()", x.drop(), 0);
        Probe.due("new loop()", x.loop(), 0);
        Probe.due("new write(0)", x.write(0), NONE);
    }

    private static void typing() {
        GrinCoder x = new GrinCoder();
        for (int n : new int[] {0, -1, 9, 16, Integer.MIN_VALUE, Integer.MAX_VALUE}) {
            Probe.due("type(1, " + n + ")", x.type(1, n), NONE);
        }
        Probe.due("nothing is typed", x.count(3), 0);
        Probe.due("type of 1", x.type(0x1122334455667788L, 1), 1);
        Probe.due("type of 3", x.type(0x1122334455667788L, 3), 4);
        Probe.due("type of 8", x.type(0xFF22334455667788L, 8), 12);
        Probe.due("value(4)", x.value(4), 1);
        Probe.due("typed bytes", Probe.bytesOf(x, 0), "88667788FF22334455667788");
        for (int k = 1; k <= 124; k++) {
            Probe.due("type, again", x.type(k, 8), 8 * k);
        }
        Probe.due("type to 999", x.type(0, 7), 999);
        Probe.due("type to 1001", x.type(0, 2), NONE);
        Probe.due("still 999", x.count(3), 999);
        Probe.due("type to 1000", x.type(0, 1), 1000);
        Probe.due("type to 1001", x.type(0, 1), NONE);
        Probe.due("still 1000", x.count(3), 1000);
    }

    private static void values() {
        for (int kind = 0; kind <= 6; kind++) {
            GrinCoder x = new GrinCoder();
            Probe.type(x, "61");
            Probe.due("value(" + kind + ")", x.value(kind), 1);
            Probe.due("its kind", x.item(0, 0), kind);
            Probe.due("whole", x.count(1), kind <= 4 ? 1 : 0);
            Probe.due("typed then", x.count(3), kind == 3 || kind == 4 ? 0 : 1);
            Probe.due("bytes then", x.count(2), kind == 3 || kind == 4 ? 1 : 0);
            for (int next = 0; kind != 5 && next <= 6; next++) {
                Probe.due("value(" + next + ") behind " + kind, x.value(next), NONE);
            }
            Probe.due("still one", x.count(0), 1);
        }
        GrinCoder x = new GrinCoder();
        for (int kind : new int[] {-1, 7, 8, 10, 11, Integer.MIN_VALUE, Integer.MAX_VALUE}) {
            Probe.due("value(" + kind + ")", x.value(kind), NONE);
        }
        Probe.due("none", x.count(0), 0);
        Probe.due("array", x.value(5), 1);
        for (int kind = 0; kind <= 4; kind++) {
            Probe.due("within", x.value(kind), kind + 2);
        }
        Probe.due("all", Probe.items(x), "0[ 1n 1f 1t 1s 1b");
    }

    private static void typedTexts() {
        String[] good = {"", "00", "7F", "C280", "DFBF", "E0A080", "E0BFBF", "ED8080", "ED9FBF", "EE8080",
            "EFBFBF", "F0908080", "F0BFBFBF", "F4808080", "F48FBFBF", "61C3A962", "F09F9880E282AC"};
        String[] bad = {"80", "BF", "C080", "C1BF", "C2", "C27F", "C2C0", "E08080", "E09FBF", "E0A0", "E0C080", "E1807F", "E180C0",
            "EDA080", "EDBFBF", "F0808080", "F08FBFBF", "F0C08080", "F18080C0", "F4908080", "F5808080", "F8888080", "FF", "FC", "FE",
            "61C3", "C3A9A9", "F09F98", "F09F987F"};
        for (String hex : good) {
            GrinCoder x = new GrinCoder();
            Probe.due("text " + hex, Probe.text(x, hex), 1);
            Probe.due("its bytes", Probe.items(x), "0s" + hex);
        }
        for (String hex : bad) {
            GrinCoder x = new GrinCoder();
            Probe.due("text " + hex, Probe.text(x, hex), NONE);
            Probe.due("no text is done", x.count(0), 0);
            Probe.due("they stay typed", x.count(3), hex.length() / 2);
            Probe.due("object", x.value(6), 1);
            Probe.due("name " + hex, x.name(), NONE);
            Probe.due("they stay typed", x.count(3), hex.length() / 2);
            x.drop();
            Probe.due("bytes " + hex, x.value(4), 1);
            Probe.due("its bytes", Probe.items(x), "0b" + hex);
        }
    }

    private static void integers() {
        GrinCoder x = new GrinCoder();
        Probe.due("integer", x.integer(Long.MIN_VALUE), 1);
        Probe.due("another", x.integer(1), NONE);
        Probe.due("its number", x.number(0), Long.MIN_VALUE);
        x.drop();
        x.value(6);
        Probe.due("integer for a name", x.integer(1), NONE);
        Probe.name(x, "");
        Probe.due("integer behind it", x.integer(-1), 3);
        Probe.due("all", Probe.items(x), "0{ 1k 1i-1");
    }

    private static void reals() {
        GrinCoder x = new GrinCoder();
        x.value(5);
        for (int wide : new int[] {-1, 2, 32, 64, Integer.MIN_VALUE, Integer.MAX_VALUE}) {
            Probe.due("real(0, " + wide + ")", x.real(0, wide), NONE);
        }
        for (long bits : new long[] {1L << 32, -1, Long.MIN_VALUE, 1L << 62}) {
            Probe.due("real(" + bits + ", 0)", x.real(bits, 0), NONE);
        }
        Probe.due("real", x.real(0xFFFFFFFFL, 0), 2);
        Probe.due("real", x.real(0, 0), 3);
        Probe.due("real", x.real(-1, 1), 4);
        Probe.due("real", x.real(1L << 32, 1), 5);
        Probe.due("all", Probe.items(x), "0[ 1r4294967295 1r0 1R-1 1R4294967296");
        x.drop();
        x.value(6);
        Probe.due("real for a name", x.real(0, 1), NONE);
        x.drop();
        x.real(0, 1);
        Probe.due("real behind a whole one", x.real(0, 1), NONE);
    }

    private static void names() {
        GrinCoder x = new GrinCoder();
        Probe.due("name of none", Probe.name(x, "61"), NONE);
        Probe.due("still typed", x.count(3), 1);
        x.value(5);
        Probe.due("name in an array", x.name(), NONE);
        x.value(6);
        Probe.due("name", x.name(), 3);
        Probe.due("none typed then", x.count(3), 0);
        Probe.due("name behind a name", x.name(), NONE);
        Probe.due("value(6)", x.value(6), 4);
        Probe.due("empty name", x.name(), 5);
        x.value(0);
        Probe.due("the same name", x.name(), 7);
        x.value(0);
        x.end();
        Probe.due("name behind an inner one", Probe.name(x, "C3A9"), 10);
        x.value(5);
        Probe.due("name in an inner array", x.name(), NONE);
        x.end();
        x.end();
        x.end();
        Probe.due("whole", x.count(1), 1);
        Probe.due("name behind a whole one", x.name(), NONE);
        Probe.due("all", Probe.items(x), "0[ 1{ 2k61 2{ 3k 3n 3k 3n 2] 2kC3A9 2[ 2] 1] 0]");
    }

    private static void ends() {
        GrinCoder x = new GrinCoder();
        Probe.due("end of none", x.end(), NONE);
        x.value(0);
        Probe.due("end of a null", x.end(), NONE);
        x.drop();
        x.value(6);
        x.name();
        Probe.due("end behind a name", x.end(), NONE);
        x.value(5);
        Probe.due("end of the array", x.end(), 4);
        Probe.due("not whole", x.count(1), 0);
        Probe.due("end of the object", x.end(), 5);
        Probe.due("whole", x.count(1), 1);
        Probe.due("one end more", x.end(), NONE);
        Probe.due("all", Probe.items(x), "0{ 1k 1[ 1] 0]");
    }

    private static void drops() {
        GrinCoder x = new GrinCoder();
        x.value(6);
        Probe.name(x, "61");
        Probe.type(x, "6162");
        Probe.due("drop", x.drop(), 2);
        Probe.due("none", x.count(0), 0);
        Probe.due("no bytes", x.count(2), 0);
        Probe.due("not whole", x.count(1), 0);
        Probe.due("still typed", x.count(3), 2);
        Probe.due("no item", x.item(0, 0), NONE);
        Probe.due("no byte", x.byteOf(1, 0), NONE);
        Probe.due("no number", x.number(0), 0);
        Probe.due("end", x.end(), NONE);
        Probe.due("value", x.value(3), 1);
        Probe.due("its bytes", Probe.items(x), "0s6162");
        Probe.due("drop", x.drop(), 1);
        Probe.due("drop", x.drop(), 0);
    }

    /** The bounds are far behind call 512, but no call may throw even there. */
    private static void tooManyItems() {
        GrinCoder x = new GrinCoder();
        x.value(5);
        for (int k = 2; k <= 1500; k++) {
            Probe.due("value", k % 2 == 0 ? x.value(0) : x.integer(k), k);
        }
        Probe.type(x, "61");
        Probe.due("value(0)", x.value(0), NONE);
        Probe.due("value(3)", x.value(3), NONE);
        Probe.due("value(5)", x.value(5), NONE);
        Probe.due("integer", x.integer(0), NONE);
        Probe.due("real", x.real(0, 1), NONE);
        Probe.due("end", x.end(), NONE);
        Probe.due("still typed", x.count(3), 1);
        Probe.due("check", x.check(), 1);
        Probe.due("drop", x.drop(), 1500);
    }

    private static void tooManyBytes() {
        GrinCoder x = new GrinCoder();
        x.value(6);
        for (int k = 1; k <= 5; k++) {
            Probe.name(x, "");
            Probe.due("1000 typed", Probe.type(x, Probe.times("61", k == 5 ? 999 : 1000)), k == 5 ? 999 : 1000);
            Probe.due("value", x.value(k == 2 ? 3 : 4), 2 * k + 1);
        }
        Probe.due("bytes", x.count(2), 4999);
        Probe.type(x, "6162");
        Probe.due("name", x.name(), NONE);
        x.drop();
        x.value(4);
        Probe.due("all is there again", x.count(2), 2);
    }

    private static void tooDeep() {
        GrinCoder x = new GrinCoder();
        for (int k = 1; k <= 30; k++) {
            Probe.due("depth", x.value(k % 2 == 0 ? 5 : 6), k + k / 2);
            if (k % 2 == 1) {
                Probe.due("name", Probe.name(x, "61"), k + k / 2 + 1);
            }
        }
        Probe.due("array too deep", x.value(5), NONE);
        Probe.due("object too deep", x.value(6), NONE);
        Probe.due("null", x.value(0), 46);
        Probe.due("its depth", x.item(45, 2), 30);
        Probe.due("end", x.end(), 47);
        Probe.due("end's depth", x.item(46, 2), 29);
        Probe.due("none may come", x.value(5), NONE);
        for (int k = 1; k < 30; k++) {
            Probe.due("end", x.end(), 47 + k);
        }
        Probe.due("whole", x.count(1), 1);
        Probe.due("check", x.check(), 1);
    }
}
