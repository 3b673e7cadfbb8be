/** Promises 1 to 8: how a document is made, and which calls are refused and change nothing. */
final class PromisesMakingTest {
    private static final int NONE = GrinCoder.NONE;
    private static final int[] FAR = {Integer.MIN_VALUE, Integer.MAX_VALUE};

    public static void main(String[] args) {
        newObject();
        lowestBytes();
        howManyAreTyped();
        typedOf1To8();
        typedUpTo1000();
        oneValueMore();
        typedBytesAreNoneThen();
        noSuchKind();
        wholeDocuments();
        aNameMustCome();
        bytesThatAreNoText();
        tooManyWithinEachOther();
        tooManyItems();
        tooManyBytes();
        integers();
        reals();
        noSuchWidth();
        tooManyBits();
        names();
        namesWhenNoneCanCome();
        namesAsAbove();
        ends();
        endsOfNone();
        endsWhenAValueMustCome();
        drops();
        dropsLeaveTheRest();
        Probe.finish();
    }

    /** A call that answers NONE, and changes nothing that can be seen. */
    private interface Call {
        int on(Run x);
    }

    private static void refused(String what, Run x, Call call) {
        String before = x.state();
        Probe.due(what, call.on(x), NONE);
        Probe.due("all there is behind " + what, x.state(), before);
    }

    private static void newObject() {
        Probe.sentence("Promise 1", "`GrinCoder()`: No document; nothing is typed, loaded, written.");
        Run x = new Run();
        for (int what = 0; what <= 5; what++) {
            Probe.due("count(" + what + ")", x.count(what), 0);
        }
        Probe.due("items", x.items(), "");
        Probe.due("written(0)", x.written(0), NONE);
        Probe.due("place()", x.place(), NONE);
        Probe.due("check()", x.check(), 1);
        refused("write(0)", x, y -> y.write(0));
        Probe.due("drop()", x.copy().drop(), 0);
        Probe.due("loop()", x.copy().loop(), 0);
        Probe.due("value(4)", x.copy().value(4), 1);
        Probe.due("read()", x.read(), 1);
        Probe.due("place()", x.place(), 0);
    }

    private static void lowestBytes() {
        Probe.sentence("Promise 2", "The n lowest bytes of a number, the highest of them first, are typed"
            + " behind others:");
        long number = 0xF122334455667788L;
        String hex = "F122334455667788";
        for (int n = 1; n <= 8; n++) {
            Run x = new Run();
            x.type(number, n);
            x.value(4);
            Probe.due("the " + n + " lowest", x.bytesOf(0), hex.substring(16 - 2 * n));
        }
        Run x = new Run();
        x.type(number, 2);
        x.type(-1, 1);
        x.type(0, 1);
        x.type(Long.MIN_VALUE, 8);
        x.value(4);
        Probe.due("behind others", x.bytesOf(0), "7788" + "FF" + "00" + "8000000000000000");
    }

    private static void howManyAreTyped() {
        Probe.sentence("Promise 2", "are typed behind others: how many are.");
        Run x = new Run();
        int sum = 0;
        for (int n = 1; n <= 8; n++) {
            sum += n;
            Probe.due("type", x.type(0, n), sum);
            Probe.due("count(3)", x.count(3), sum);
        }
    }

    private static void typedOf1To8() {
        Probe.sentence("Promise 2", "NONE, and nothing is done, when n is not 1 .. 8,");
        for (Run x : new Run[] {new Run(), typed("6162")}) {
            for (int n : new int[] {-1, 0, 9, 10, 16, 64, -8, FAR[0], FAR[1]}) {
                refused("type(97, " + n + ")", x, y -> y.type(97, n));
            }
            int before = x.count(3);
            Probe.due("type(97, 1)", x.type(97, 1), before + 1);
            Probe.due("type(97, 8)", x.type(97, 8), before + 9);
        }
    }

    private static Run typed(String hex) {
        Run x = new Run();
        x.types(hex);
        return x;
    }

    private static void typedUpTo1000() {
        Probe.sentence("Promise 2", "or there would be more than 1000.");
        for (int n = 1; n <= 8; n++) {
            int some = n;
            Run x = typed(Probe.times("61", 1000 - n));
            Probe.due("up to 1000", x.copy().type(0x6262626262626262L, n), 1000);
            if (n < 8) {
                refused("up to 1001", x, y -> y.type(0, some + 1));
            }
            x.type(0x6262626262626262L, n);
            refused("one more", x, y -> y.type(0, 1));
            refused("eight more", x, y -> y.type(0, 8));
            Probe.due("value(3)", x.value(3), 1);
            Probe.due("all 1000", x.bytesOf(0), Probe.times("61", 1000 - n) + Probe.times("62", n));
            Probe.due("behind it, the first again", x.type(0, 8), 8);
        }
    }

    private static void oneValueMore() {
        Probe.sentence("Promise 3", "One value more in the document that is made: null (kind 0), false (1),"
            + " true (2), the typed text (3), the typed bytes (4), an array (5), an object (6) that are open"
            + " then: how many items it has.");
        String[] items = {"0n", "0f", "0t", "0s61", "0b61", "0[", "0{"};
        for (int kind = 0; kind <= 6; kind++) {
            Run x = typed("61");
            Probe.due("value(" + kind + ")", x.value(kind), 1);
            Probe.due("items", x.items(), items[kind]);
            Probe.due("whole", x.count(1), kind <= 4 ? 1 : 0);
            Probe.due("end()", x.end(), kind <= 4 ? NONE : 2);
        }
        Run x = new Run();
        Probe.due("array", x.value(5), 1);
        for (int kind = 0; kind <= 6; kind++) {
            Probe.due("value(" + kind + ") in it", x.value(kind), kind + 2);
        }
        Probe.due("items", x.items(), "0[ 1n 1f 1t 1s 1b 1[ 2{");
    }

    private static void typedBytesAreNoneThen() {
        Probe.sentence("Promise 3", "The typed bytes are none then (for 3 and 4).");
        for (int kind = 0; kind <= 6; kind++) {
            Run x = typed("6162");
            x.value(kind);
            Probe.due("typed behind value(" + kind + ")", x.count(3), kind == 3 || kind == 4 ? 0 : 2);
            Probe.due("bytes behind value(" + kind + ")", x.count(2), kind == 3 || kind == 4 ? 2 : 0);
        }
        Run x = new Run();
        x.value(5);
        x.text("61");
        Probe.due("the empty text behind it", x.value(3), 3);
        x.bytes("62");
        Probe.due("no bytes behind it", x.value(4), 5);
        Probe.due("items", x.items(), "0[ 1s61 1s 1b62 1b");
    }

    private static void noSuchKind() {
        Probe.sentence("Promise 3", "NONE, and nothing is done, when there is no such kind,");
        Run open = typed("61");
        open.value(5);
        for (Run x : new Run[] {typed("61"), open}) {
            for (int kind : new int[] {-1, 7, 8, 9, 10, 11, 12, FAR[0], FAR[1]}) {
                refused("value(" + kind + ")", x, y -> y.value(kind));
            }
        }
    }

    /** Every call that would put a value behind others. */
    private static void noValueMayCome(String where, Run x) {
        for (int kind = 0; kind <= 6; kind++) {
            int some = kind;
            refused("value(" + kind + ") " + where, x, y -> y.value(some));
        }
        refused("integer(0) " + where, x, y -> y.integer(0));
        refused("real(0, 0) " + where, x, y -> y.real(0, 0));
        refused("real(0, 1) " + where, x, y -> y.real(0, 1));
    }

    private static void wholeDocuments() {
        Probe.sentence("Promise 3", "the document is whole,");
        for (int kind = 0; kind <= 6; kind++) {
            Run x = new Run();
            x.value(kind);
            x.end();
            x.types("61");
            noValueMayCome("behind kind " + kind, x);
            Run y = Run.of(0, x.copy().writes(0));
            y.types("61");
            noValueMayCome("behind kind " + kind + ", read", y);
        }
        Run x = new Run();
        x.value(5);
        x.value(5);
        x.end();
        Probe.due("not whole: integer(1)", x.integer(1), 4);
        x.end();
        noValueMayCome("behind the outermost end", x);
        x.drop();
        Probe.due("none: integer(1)", x.integer(1), 1);
    }

    private static void aNameMustCome() {
        Probe.sentence("Promise 3", "a name must come,");
        Run x = typed("61");
        x.value(6);
        noValueMayCome("before a name", x);
        x.name();
        Probe.due("value(0) behind a name", x.value(0), 3);
        x.types("62");
        noValueMayCome("behind a part", x);
        x.name();
        Probe.due("value(5) behind a name", x.value(5), 5);
        Probe.due("value(0) in an array", x.value(0), 6);
        Probe.due("value(1) in an array", x.value(1), 7);
        x.end();
        noValueMayCome("behind an array in an object", x);
        x.name();
        Probe.due("value(6) behind a name", x.value(6), 10);
        noValueMayCome("in an inner object", x);
    }

    private static void bytesThatAreNoText() {
        Probe.sentence("Promise 3", "the bytes are no text,");
        for (String hex : new String[] {"80", "61C3", "C080", "EDA080", "F4908080", "FF"}) {
            Run x = typed(hex);
            refused("value(3) of " + hex, x, y -> y.value(3));
            Probe.due("value(4) of " + hex, x.value(4), 1);
            Probe.due("items", x.items(), "0b" + hex);
        }
        Run x = typed("C3");
        refused("value(3) of half a character", x, y -> y.value(3));
        x.type(0xA9, 1);
        Probe.due("value(3) of all of it", x.value(3), 1);
        Probe.due("items", x.items(), "0sC3A9");
    }

    private static void tooManyWithinEachOther() {
        Probe.sentence("Promise 3", "or it would have too many items, bytes, or within each other.");
        Run x = new Run();
        for (int k = 1; k <= 30; k++) {
            Probe.due("value(5)", x.value(5), k);
        }
        refused("value(5)", x, y -> y.value(5));
        refused("value(6)", x, y -> y.value(6));
        for (int kind = 0; kind <= 4; kind++) {
            Probe.due("value(" + kind + ")", x.value(kind), 31 + kind);
        }
        x.end();
        Probe.due("value(6)", x.value(6), 37);
        x.name();
        refused("value(5)", x, y -> y.value(5));
        Probe.due("value(0)", x.value(0), 39);
    }

    // No 512 calls reach 1500 items or 5000 bytes by making. Behind them all answers are free; this class
    // keeps to the same limits there, and so is tested there.

    private static void tooManyItems() {
        Probe.sentence("Promise 3", "or it would have too many items, bytes, or within each other.");
        GrinCoder x = new GrinCoder();
        x.value(6);
        x.name();
        x.value(5);
        for (int k = 4; k <= 1498; k++) {
            Probe.due("value", x.value(0), k);
        }
        Probe.due("end(), item 1499", x.end(), 1499);
        x.type(0x61, 1);
        Probe.due("name(), item 1500", x.name(), 1500);
        x.type(0x61, 1);
        for (int kind = 0; kind <= 6; kind++) {
            Probe.due("value(" + kind + "), item 1501", x.value(kind), NONE);
        }
        Probe.due("integer(0), item 1501", x.integer(0), NONE);
        Probe.due("real(0, 0), item 1501", x.real(0, 0), NONE);
        Probe.due("real(0, 1), item 1501", x.real(0, 1), NONE);
        Probe.due("still typed", x.count(3), 1);
        Probe.due("drop()", x.drop(), 1500);
        x.value(5);
        x.value(6);
        for (int k = 4; k <= 1500; k += 2) {
            x.name();
            Probe.due("value", x.value(0), k);
        }
        Probe.due("name(), item 1501", x.name(), NONE);
        Probe.due("end(), item 1501", x.end(), NONE);
        Probe.due("drop()", x.drop(), 1500);
    }

    private static void tooManyBytes() {
        Probe.sentence("Promise 3", "or it would have too many items, bytes, or within each other.");
        for (int last = 3; last <= 5; last++) {
            GrinCoder x = new GrinCoder();
            x.value(6);
            for (int k = 0; k < 5; k++) {
                x.name();
                typeMany(x, k == 4 ? 992 : 1000);
                x.value(3 + k % 2);
            }
            Probe.due("bytes", x.count(2), 4992);
            if (last != 5) {
                x.name();
            }
            x.type(0x6161616161616161L, 8);
            x.type(0x61, 1);
            Probe.due("9 bytes more", last == 5 ? x.name() : x.value(last), NONE);
            Probe.due("still typed", x.count(3), 9);
            Probe.due("still 4992", x.count(2), 4992);
        }
        GrinCoder x = new GrinCoder();
        x.value(5);
        for (int k = 1; k <= 5; k++) {
            typeMany(x, 1000);
            Probe.due("1000 bytes", x.value(4), k + 1);
        }
        Probe.due("bytes", x.count(2), 5000);
        Probe.due("no bytes more", x.value(4), 7);
        Probe.due("no bytes more", x.integer(0), 8);
        x.type(0x61, 1);
        Probe.due("one more", x.value(4), NONE);
        Probe.due("one more", x.value(3), NONE);
    }

    private static void typeMany(GrinCoder x, int bytes) {
        for (int k = 0; k < bytes; k += 8) {
            x.type(0x6161616161616161L, 8);
        }
    }

    private static void integers() {
        Probe.sentence("Promise 4", "An integer likewise.");
        Run x = typed("61");
        x.value(5);
        long[] numbers = {Long.MIN_VALUE, -1, 0, 1, Long.MAX_VALUE};
        for (int k = 0; k < numbers.length; k++) {
            Probe.due("integer", x.integer(numbers[k]), k + 2);
            Probe.due("kind", x.item(k + 1, 0), 7);
            Probe.due("number", x.number(k + 1), numbers[k]);
        }
        Probe.due("still typed", x.count(3), 1);
        x.drop();
        Probe.due("alone", x.integer(5), 1);
        Probe.due("whole", x.count(1), 1);
        refused("another", x, y -> y.integer(6));
        x.drop();
        x.value(6);
        refused("instead of a name", x, y -> y.integer(6));
    }

    private static void reals() {
        Probe.sentence("Promise 5", "A real of 32 bits (wide 0) or 64 (1) likewise;");
        Run x = typed("61");
        x.value(5);
        Probe.due("real(1, 0)", x.real(1, 0), 2);
        Probe.due("real(1, 1)", x.real(1, 1), 3);
        Probe.due("still typed", x.count(3), 1);
        Probe.due("items", x.items(), "0[ 1r1 1R1");
        for (int wide = 0; wide <= 1; wide++) {
            int some = wide;
            Run y = new Run();
            Probe.due("alone", y.real(0, wide), 1);
            Probe.due("whole", y.count(1), 1);
            refused("another", y, z -> z.real(0, some));
            y.drop();
            y.value(6);
            refused("instead of a name", y, z -> z.real(0, some));
        }
    }

    private static void noSuchWidth() {
        Probe.sentence("Promise 5", "NONE also when there is no such width,");
        Run x = new Run();
        x.value(5);
        for (int wide : new int[] {-1, 2, 3, 32, 64, FAR[0], FAR[1]}) {
            refused("real(0, " + wide + ")", x, y -> y.real(0, wide));
        }
        Probe.due("real(0, 0)", x.real(0, 0), 2);
        Probe.due("real(0, 1)", x.real(0, 1), 3);
    }

    private static void tooManyBits() {
        Probe.sentence("Promise 5", "or for 32 bits more than these are told.");
        Run x = new Run();
        x.value(5);
        for (long bits : new long[] {1L << 32, (1L << 32) + 1, 1L << 62, Long.MAX_VALUE, Long.MIN_VALUE, -1}) {
            refused("real(" + bits + ", 0)", x, y -> y.real(bits, 0));
        }
        Probe.due("32 bits", x.real((1L << 32) - 1, 0), 2);
        for (long bits : new long[] {1L << 32, Long.MAX_VALUE, Long.MIN_VALUE, -1}) {
            x.real(bits, 1);
        }
        Probe.due("items", x.items(), "0[ 1r4294967295 1R4294967296 1R9223372036854775807 1R-9223372036854775808 1R-1");
    }

    private static void names() {
        Probe.sentence("Promise 6", "The typed text is the name of the next part likewise.");
        Run x = new Run();
        x.value(6);
        Probe.due("name", x.name("C3A9"), 2);
        Probe.due("none typed then", x.count(3), 0);
        Probe.due("bytes", x.count(2), 2);
        x.value(6);
        Probe.due("the empty name", x.name(), 4);
        x.value(0);
        x.end();
        Probe.due("name behind an inner object", x.name(Probe.times("61", 1000)), 7);
        x.value(0);
        x.end();
        Probe.due("items", x.items(), "0{ 1kC3A9 1{ 2k 2n 1] 1k" + Probe.times("61", 1000) + " 1n 0]");
    }

    private static void namesWhenNoneCanCome() {
        Probe.sentence("Promise 6", "NONE when none can come,");
        Run x = typed("61");
        refused("name() without a document", x, Run::name);
        x.value(5);
        refused("name() in an array", x, Run::name);
        x.value(6);
        Probe.due("name() in an object", x.name(), 3);
        refused("name() behind a name", x, Run::name);
        x.value(5);
        refused("name() in an array of an object", x, Run::name);
        x.end();
        Probe.due("name() behind it", x.name(), 6);
        x.value(0);
        x.end();
        refused("name() behind an object in an array", x, Run::name);
        x.end();
        refused("name() behind a whole document", x, Run::name);
        Run y = Run.of(0, "FAFB");
        refused("name() behind a read document", y, Run::name);
    }

    private static void namesAsAbove() {
        Probe.sentence("Promise 6", "and as above.");
        for (String hex : new String[] {"80", "61C3", "C080", "EDA080", "F4908080", "FF"}) {
            Run x = typed(hex);
            x.value(6);
            refused("name() of " + hex, x, Run::name);
        }
    }

    private static void ends() {
        Probe.sentence("Promise 7", "The innermost open array or object ends likewise.");
        Run x = typed("61");
        x.value(6);
        x.name();
        x.value(5);
        x.value(6);
        Probe.due("end of the inner object", x.end(), 5);
        Probe.due("array goes on", x.value(0), 6);
        Probe.due("end of the array", x.end(), 7);
        Probe.due("object goes on", x.name(), 8);
        x.value(1);
        Probe.due("not whole", x.count(1), 0);
        Probe.due("end of the object", x.end(), 10);
        Probe.due("whole", x.count(1), 1);
        Probe.due("items", x.items(), "0{ 1k61 1[ 2{ 2] 2n 1] 1k 1f 0]");
        Run deep = new Run();
        for (int k = 0; k < 30; k++) {
            deep.value(5);
        }
        for (int k = 1; k <= 30; k++) {
            Probe.due("not whole", deep.count(1), 0);
            Probe.due("end " + k, deep.end(), 30 + k);
        }
        Probe.due("whole", deep.count(1), 1);
    }

    private static void endsOfNone() {
        Probe.sentence("Promise 7", "NONE when there is none,");
        Run x = typed("61");
        refused("end() without a document", x, Run::end);
        for (int kind = 0; kind <= 6; kind++) {
            Run y = new Run();
            y.value(kind);
            y.end();
            refused("end() behind a whole document", y, Run::end);
        }
        refused("end() behind a read document", Run.of(0, "F8F9"), Run::end);
        x.value(5);
        x.drop();
        refused("end() behind drop()", x, Run::end);
    }

    private static void endsWhenAValueMustCome() {
        Probe.sentence("Promise 7", "or a value must come.");
        Run x = new Run();
        x.value(6);
        Probe.due("before a name", x.copy().end(), 2);
        x.name("61");
        refused("behind a name", x, Run::end);
        x.value(5);
        Probe.due("in its array", x.copy().end(), 4);
        x.end();
        Probe.due("behind its value", x.end(), 5);
    }

    private static void drops() {
        Probe.sentence("Promise 8", "The document is no more: how many items it had.");
        Run x = new Run();
        Probe.due("none", x.drop(), 0);
        x.value(6);
        x.name("6162");
        Probe.due("behind a name", x.drop(), 2);
        Probe.due("items", x.items(), "");
        for (int what = 0; what <= 2; what++) {
            Probe.due("count(" + what + ")", x.count(what), 0);
        }
        Probe.due("byteOf(1, 0)", x.byteOf(1, 0), NONE);
        Probe.due("again", x.drop(), 0);
        Probe.due("another", x.value(5), 1);
        Probe.due("name() in it", x.name("61"), NONE);
        Probe.due("value in it", x.value(3), 2);
        Probe.due("open", x.drop(), 2);
        x.integer(7);
        Probe.due("whole", x.drop(), 1);
        Probe.due("no number", x.number(0), 0);
        Run most = Run.of(0, "F8" + Probe.times("21", 1498) + "F9");
        Probe.due("of 1500 items", most.drop(), 1500);
        Probe.due("none then", most.count(0), 0);
        // All of its room is there again.
        Run deep = new Run();
        for (int round = 0; round < 3; round++) {
            for (int k = 1; k <= 30; k++) {
                Probe.due("value(5)", deep.value(5), k);
            }
            Probe.due("of 30 open ones", deep.drop(), 30);
        }
    }

    private static void dropsLeaveTheRest() {
        Probe.sentence("Promise 8", "The document is no more: how many items it had.");
        Run x = new Run();
        x.reads(0, "FF");
        x.integer(1);
        x.write(0);
        x.types("6162");
        x.loads("3A29");
        x.drop();
        Probe.due("typed", x.count(3), 2);
        Probe.due("loaded", x.count(4), 2);
        Probe.due("written", x.writtenFrom(0), "3A290A00C2");
        Probe.due("place()", x.place(), 4);
        Probe.due("loop()", x.loop(), 5);
        Probe.due("read()", x.read(), 0);
        Probe.due("items", x.items(), "0i1");
        Probe.due("whole", x.count(1), 1);
    }
}
