/** Promises 15 to 19: what is asked of a document. */
final class AskingTest {
    private static final int NONE = GrinCoder.NONE;
    private static final int[] FAR = {-1, -2, 100, 1499, 1500, 6000, Integer.MIN_VALUE, Integer.MAX_VALUE};

    public static void main(String[] args) {
        itemsOfAll();
        itemsOfNone();
        counts();
        checks();
        Probe.finish();
    }

    private static GrinCoder allKinds() {
        GrinCoder x = new GrinCoder();
        x.value(6);
        Probe.name(x, "C3A9");
        x.value(5);
        for (int kind = 0; kind <= 2; kind++) {
            x.value(kind);
        }
        Probe.text(x, "616263");
        Probe.raw(x, "00FF80");
        x.integer(-7);
        x.real(0x80000000L, 0);
        x.real(Long.MIN_VALUE, 1);
        x.end();
        x.end();
        return x;
    }

    private static void itemsOfAll() {
        asAllKinds(allKinds());
        GrinCoder x = allKinds();
        x.write(3);
        x.loop();
        x.drop();
        Probe.due("read", x.read(), 0);
        asAllKinds(x);
    }

    private static void asAllKinds(GrinCoder x) {
        int[] kinds = {6, 10, 5, 0, 1, 2, 3, 4, 7, 8, 9, 11, 11};
        int[] lengths = {0, 2, 0, 0, 0, 0, 3, 3, 0, 0, 0, 0, 0};
        int[] depths = {0, 1, 1, 2, 2, 2, 2, 2, 2, 2, 2, 1, 0};
        long[] numbers = {0, 0, 0, 0, 0, 0, 0, 0, -7, 0x80000000L, Long.MIN_VALUE, 0, 0};
        for (int i = 0; i < kinds.length; i++) {
            Probe.due("item(" + i + ", 0)", x.item(i, 0), kinds[i]);
            Probe.due("item(" + i + ", 1)", x.item(i, 1), lengths[i]);
            Probe.due("item(" + i + ", 2)", x.item(i, 2), depths[i]);
            Probe.due("number(" + i + ")", x.number(i), numbers[i]);
            Probe.due("byteOf(" + i + ", -1)", x.byteOf(i, -1), NONE);
            Probe.due("byteOf(" + i + ", n)", x.byteOf(i, lengths[i]), NONE);
        }
        Probe.due("name's bytes", Probe.bytesOf(x, 1), "C3A9");
        Probe.due("text's bytes", Probe.bytesOf(x, 6), "616263");
        Probe.due("bytes", Probe.bytesOf(x, 7), "00FF80");
        Probe.due("none behind", x.item(kinds.length, 0), NONE);
    }

    private static void itemsOfNone() {
        GrinCoder x = allKinds();
        for (int far : FAR) {
            for (int what = 0; what <= 2; what++) {
                Probe.due("item(" + far + ", " + what + ")", x.item(far, what), NONE);
            }
            Probe.due("number(" + far + ")", x.number(far), 0);
            Probe.due("byteOf(" + far + ", 0)", x.byteOf(far, 0), NONE);
            Probe.due("byteOf(6, " + far + ")", x.byteOf(6, far), NONE);
        }
        for (int what : new int[] {-1, 3, 4, Integer.MIN_VALUE, Integer.MAX_VALUE}) {
            Probe.due("item(0, " + what + ")", x.item(0, what), NONE);
        }
        Probe.due("a text before is no part of it", x.byteOf(7, -1), NONE);
    }

    private static void counts() {
        GrinCoder x = allKinds();
        Probe.due("items", x.count(0), 13);
        Probe.due("whole", x.count(1), 1);
        Probe.due("bytes", x.count(2), 8);
        Probe.type(x, "010203");
        Probe.due("typed", x.count(3), 3);
        Probe.load(x, "01020304");
        Probe.due("loaded", x.count(4), 4);
        int n = x.write(0);
        Probe.due("written", x.count(5), n);
        for (int what : new int[] {-1, 6, 7, Integer.MIN_VALUE, Integer.MAX_VALUE}) {
            Probe.due("count(" + what + ")", x.count(what), NONE);
        }
        x.drop();
        Probe.due("not whole", x.count(1), 0);
        x.value(5);
        Probe.due("open", x.count(1), 0);
        // Told by a place, the bytes of a text count each time.
        GrinCoder y = Probe.reading(3, "FA" + "8161" + "62" + "42636465" + "40" + "01" + "FB");
        Probe.due("items", Probe.items(y), "0{ 1k6162 1s636465 1k6162 1s636465 0]");
        Probe.due("bytes each time", y.count(2), 2 * (2 + 3));
    }

    private static void checks() {
        GrinCoder x = new GrinCoder();
        Probe.due("check of none", x.check(), 1);
        for (int k = 0; k < 30; k++) {
            x.value(5);
            Probe.due("check of open ones", x.check(), 1);
        }
        for (int k = 0; k < 30; k++) {
            x.end();
            Probe.due("check of ended ones", x.check(), 1);
        }
        x.value(0);
        Probe.due("check of one alone", x.check(), 1);
        Probe.read(x, 0, "FF");
        Probe.due("check behind a fault", x.check(), 1);
        Probe.read(x, 0, "F82121F9");
        Probe.due("check of a read one", x.check(), 1);
    }
}
