import java.lang.reflect.Field;

/** Promises 15 to 19: what is asked of a document, at its first and last items and bytes, and beyond them. */
final class PromisesAskingTest {
    private static final int NONE = GrinCoder.NONE;
    private static final int[] FAR = {-1, -2, 1500, 1501, 5000, 6000, Integer.MIN_VALUE, Integer.MAX_VALUE};
    private static final int[] KINDS = {6, 10, 5, 0, 1, 2, 3, 4, 7, 8, 9, 11, 10, 3, 11};
    private static final int[] LENGTHS = {0, 2, 0, 0, 0, 0, 3, 3, 0, 0, 0, 0, 0, 0, 0};
    private static final int[] DEPTHS = {0, 1, 1, 2, 2, 2, 2, 2, 2, 2, 2, 1, 1, 1, 0};
    private static final long[] NUMBERS = {0, 0, 0, 0, 0, 0, 0, 0, -7, 0x80000000L, Long.MIN_VALUE, 0, 0, 0, 0};

    public static void main(String[] args) throws ReflectiveOperationException {
        for (Run x : new Run[] {allKinds(), allKindsRead()}) {
            kinds(x);
            lengths(x);
            depths(x);
            noneSuch(x);
            numbers(x);
            bytes(x);
            noBytes(x);
        }
        depthsOfDeep();
        lastItems();
        openDocuments();
        countOfItems();
        countOfWhole();
        countOfBytes();
        countOfTyped();
        countOfLoaded();
        countOfWritten();
        countOfOthers();
        checks();
        checkOfOneValue();
        checkOfWhatIsOpen();
        nothingIsChanged();
        Probe.finish();
    }

    private static Run allKinds() {
        Run x = new Run();
        x.value(6);
        x.name("C3A9");
        x.value(5);
        for (int kind = 0; kind <= 2; kind++) {
            x.value(kind);
        }
        x.text("616263");
        x.bytes("00FF80");
        x.integer(-7);
        x.real(0x80000000L, 0);
        x.real(Long.MIN_VALUE, 1);
        x.end();
        x.name();
        x.value(3);
        x.end();
        return x;
    }

    private static Run allKindsRead() {
        Run x = allKinds();
        x.write(3);
        x.loop();
        x.drop();
        x.read();
        return x;
    }

    private static void kinds(Run x) {
        Probe.sentence("Promise 15", "Of item i its kind (what 0: 0 to 6 as above, 7 an integer, 8 a real of 32"
            + " bits, 9 of 64, 10 a name, 11 an end),");
        for (int i = 0; i < KINDS.length; i++) {
            Probe.due("item(" + i + ", 0)", x.item(i, 0), KINDS[i]);
        }
    }

    private static void lengths(Run x) {
        Probe.sentence("Promise 15", "how many bytes its text or bytes have (1; 0 for others),");
        for (int i = 0; i < KINDS.length; i++) {
            Probe.due("item(" + i + ", 1)", x.item(i, 1), LENGTHS[i]);
        }
    }

    private static void depths(Run x) {
        Probe.sentence("Promise 15", "within how many arrays and objects it is (2; an end: of those it is left"
            + " in);");
        for (int i = 0; i < KINDS.length; i++) {
            Probe.due("item(" + i + ", 2)", x.item(i, 2), DEPTHS[i]);
        }
    }

    private static void noneSuch(Run x) {
        Probe.sentence("Promise 15", "NONE when there is none such.");
        for (int what = 0; what <= 2; what++) {
            Probe.due("item behind the last", x.item(KINDS.length, what), NONE);
            for (int far : FAR) {
                Probe.due("item(" + far + ", " + what + ")", x.item(far, what), NONE);
            }
        }
        for (int what : new int[] {-1, 3, 4, 10, Integer.MIN_VALUE, Integer.MAX_VALUE}) {
            Probe.due("item(0, " + what + ")", x.item(0, what), NONE);
            Probe.due("item(6, " + what + ")", x.item(6, what), NONE);
            Probe.due("item(-1, " + what + ")", x.item(-1, what), NONE);
        }
        Run none = new Run();
        for (int what = 0; what <= 2; what++) {
            Probe.due("item(0, " + what + ") without a document", none.item(0, what), NONE);
        }
    }

    private static void numbers(Run x) {
        Probe.sentence("Promise 16", "The integer of item i, or the bits of its real; 0 for others.");
        for (int i = 0; i < KINDS.length; i++) {
            Probe.due("number(" + i + ")", x.number(i), NUMBERS[i]);
        }
        Probe.due("number behind the last", x.number(KINDS.length), 0);
        for (int far : FAR) {
            Probe.due("number(" + far + ")", x.number(far), 0);
        }
        Run gone = new Run();
        gone.integer(9);
        gone.drop();
        Probe.due("number(0) without a document", gone.number(0), 0);
        gone.value(0);
        Probe.due("number(0) of null", gone.number(0), 0);
    }

    private static void bytes(Run x) {
        Probe.sentence("Promise 17", "Byte k of the text or bytes of item i;");
        int[][] due = {{1, 0xC3, 0xA9}, {6, 0x61, 0x62, 0x63}, {7, 0x00, 0xFF, 0x80}};
        for (int[] row : due) {
            for (int k = 1; k < row.length; k++) {
                Probe.due("byteOf(" + row[0] + ", " + (k - 1) + ")", x.byteOf(row[0], k - 1), row[k]);
            }
        }
    }

    private static void noBytes(Run x) {
        Probe.sentence("Promise 17", "Byte k of the text or bytes of item i; NONE when there is none.");
        for (int i = 0; i < KINDS.length; i++) {
            Probe.due("byteOf(" + i + ", -1)", x.byteOf(i, -1), NONE);
            Probe.due("byteOf(" + i + ", n)", x.byteOf(i, LENGTHS[i]), NONE);
            for (int far : FAR) {
                Probe.due("byteOf(" + i + ", " + far + ")", x.byteOf(i, far), NONE);
            }
        }
        Probe.due("byteOf behind the last", x.byteOf(KINDS.length, 0), NONE);
        for (int far : FAR) {
            Probe.due("byteOf(" + far + ", 0)", x.byteOf(far, 0), NONE);
        }
        Probe.due("byteOf(0, 0) without a document", new Run().byteOf(0, 0), NONE);
    }

    private static void depthsOfDeep() {
        Probe.sentence("Promise 15", "within how many arrays and objects it is (2; an end: of those it is left"
            + " in);");
        Run x = new Run();
        for (int k = 0; k < 30; k++) {
            x.value(5);
        }
        x.value(0);
        for (int k = 0; k < 30; k++) {
            x.end();
        }
        for (int k = 0; k < 30; k++) {
            Probe.due("array " + k, x.item(k, 2), k);
            Probe.due("end " + k, x.item(31 + k, 2), 29 - k);
        }
        Probe.due("null", x.item(30, 2), 30);
    }

    private static void lastItems() {
        Probe.sentence("Promise 15", "NONE when there is none such.");
        Run x = Run.of(4, "F8" + Probe.times("21", 1497) + "FD81AA" + "F9");
        Probe.due("item(1498, 0)", x.item(1498, 0), 4);
        Probe.due("byteOf(1498, 0)", x.byteOf(1498, 0), 0xAA);
        Probe.due("byteOf(1498, 1)", x.byteOf(1498, 1), NONE);
        Probe.due("item(1499, 0)", x.item(1499, 0), 11);
        for (int what = 0; what <= 2; what++) {
            Probe.due("item(1500, " + what + ")", x.item(1500, what), NONE);
        }
        Probe.due("number(1500)", x.number(1500), 0);
        Probe.due("byteOf(1500, 0)", x.byteOf(1500, 0), NONE);
        // A shorter document shows nothing of the longer one before.
        x.reads(0, "C5");
        Probe.due("item(1, 0)", x.item(1, 0), NONE);
        Probe.due("byteOf(1498, 0)", x.byteOf(1498, 0), NONE);
    }

    private static void openDocuments() {
        Probe.sentence("Promise 15", "Of item i its kind");
        Run x = new Run();
        x.value(6);
        x.name("61");
        Probe.due("an open object", x.item(0, 0), 6);
        Probe.due("its last name", x.item(1, 0), 10);
        Probe.due("the name's depth", x.item(1, 2), 1);
        Probe.due("the name's byte", x.byteOf(1, 0), 0x61);
        Probe.due("none behind it", x.item(2, 0), NONE);
    }

    private static void countOfItems() {
        Probe.sentence("Promise 18", "How many items there are (what 0),");
        Run x = new Run();
        Probe.due("none", x.count(0), 0);
        x.value(5);
        Probe.due("one", x.count(0), 1);
        x.value(0);
        x.end();
        Probe.due("three", x.count(0), 3);
        Probe.due("1500", Run.of(0, "F8" + Probe.times("21", 1498) + "F9").count(0), 1500);
    }

    private static void countOfWhole() {
        Probe.sentence("Promise 18", "whether the document is whole (1: 1, 0; 0 without one),");
        Run x = new Run();
        Probe.due("none", x.count(1), 0);
        x.value(6);
        Probe.due("open", x.count(1), 0);
        x.name("61");
        Probe.due("named", x.count(1), 0);
        x.value(5);
        x.end();
        Probe.due("still open", x.count(1), 0);
        x.end();
        Probe.due("whole", x.count(1), 1);
        x.drop();
        Probe.due("none again", x.count(1), 0);
        x.value(3);
        Probe.due("a text alone", x.count(1), 1);
    }

    private static void countOfBytes() {
        Probe.sentence("Promise 18", "bytes of all its texts and bytes (2),");
        Run x = allKinds();
        Probe.due("of all kinds", x.count(2), 8);
        x.types("010203");
        Probe.due("not of those that are typed", x.count(2), 8);
        x.drop();
        Probe.due("none", x.count(2), 0);
        Run told = Run.of(3, "FA" + "816162" + "42636465" + "40" + "01" + "FB");
        Probe.due("each time", told.count(2), 2 * (2 + 3));
        Run most = Run.of(2, "F8" + "67" + Probe.times("61", 40) + Probe.times("01", 124) + "F9");
        Probe.due("5000", most.count(2), 5000);
    }

    private static void countOfTyped() {
        Probe.sentence("Promise 18", "bytes that are typed (3),");
        Run x = new Run();
        Probe.due("none", x.count(3), 0);
        x.types(Probe.times("61", 1000));
        Probe.due("1000", x.count(3), 1000);
        x.value(3);
        Probe.due("none then", x.count(3), 0);
    }

    private static void countOfLoaded() {
        Probe.sentence("Promise 18", "loaded (4),");
        Run x = new Run();
        Probe.due("none", x.count(4), 0);
        x.loads("3A290A0021");
        Probe.due("five", x.count(4), 5);
        x.read();
        Probe.due("none then", x.count(4), 0);
    }

    private static void countOfWritten() {
        Probe.sentence("Promise 18", "written (5);");
        Run x = new Run();
        Probe.due("none", x.count(5), 0);
        x.text("616263");
        x.write(0);
        Probe.due("eight", x.count(5), 8);
        x.drop();
        x.value(0);
        x.write(0);
        Probe.due("the latest", x.count(5), 5);
    }

    private static void countOfOthers() {
        Probe.sentence("Promise 18", "NONE for others.");
        for (Run x : new Run[] {new Run(), allKinds()}) {
            for (int what : new int[] {-1, 6, 7, 8, Integer.MIN_VALUE, Integer.MAX_VALUE}) {
                Probe.due("count(" + what + ")", x.count(what), NONE);
            }
            for (int what = 0; what <= 5; what++) {
                Probe.due("count(" + what + ") is none", x.count(what) == NONE ? 1 : 0, 0);
            }
        }
    }

    private static void checks() {
        Probe.sentence("Promise 19", "Whether the document has one value at most, and all that is open in it is"
            + " not more than it has: 1;");
        Run x = new Run();
        Probe.due("none", x.check(), 1);
        for (int k = 0; k < 31; k++) {
            x.value(5);
            Probe.due("open ones", x.check(), 1);
        }
        for (int k = 0; k < 31; k++) {
            x.end();
            Probe.due("ended ones", x.check(), 1);
        }
        x.value(0);
        Probe.due("whole", x.check(), 1);
        x.reads(0, "FF");
        Probe.due("behind a fault", x.check(), 1);
        x.reads(0, "F8" + Probe.times("21", 1498) + "F9");
        Probe.due("1500 items", x.check(), 1);
        x.drop();
        Probe.due("none again", x.check(), 1);
    }

    // No call breaks what check() looks at, so it is broken from outside, by the names that the class has inside.

    private static void checkOfOneValue() throws ReflectiveOperationException {
        Probe.sentence("Promise 19", "Whether the document has one value at most, and all that is open in it is"
            + " not more than it has: 1; it would tell 0.");
        GrinCoder x = new GrinCoder();
        x.value(5);
        x.value(0);
        x.integer(1);
        x.end();
        Object document = inside(x, "document").get(x);
        int[] depths = (int[]) inside(document, "depths").get(document);
        Probe.due("one value", x.check(), 1);
        depths[1] = 0;
        Probe.due("two values", x.check(), 0);
        depths[2] = 0;
        Probe.due("three values", x.check(), 0);
        depths[1] = 1;
        Probe.due("two others", x.check(), 0);
        depths[2] = 1;
        Probe.due("one value again", x.check(), 1);
    }

    private static void checkOfWhatIsOpen() throws ReflectiveOperationException {
        Probe.sentence("Promise 19", "and all that is open in it is not more than it has: 1; it would tell 0.");
        GrinCoder x = new GrinCoder();
        Object document = inside(x, "document").get(x);
        Field open = inside(document, "depth");
        for (int items = 0; items <= 3; items++) {
            for (int depth = 0; depth <= 5; depth++) {
                open.setInt(document, depth);
                Probe.due(depth + " open of " + items, x.check(), depth <= items ? 1 : 0);
            }
            open.setInt(document, items);
            x.value(5);
        }
    }

    private static Field inside(Object object, String name) throws ReflectiveOperationException {
        Field field = object.getClass().getDeclaredField(name);
        field.setAccessible(true);
        return field;
    }

    private static void nothingIsChanged() {
        Probe.sentence("Not promised", "Nothing is promised beyond the answers and state changes described"
            + " above,");
        // Questions change nothing: Run takes that for granted.
        GrinCoder asked = new GrinCoder();
        asked.value(6);
        asked.type(0x61, 1);
        for (int k = -2; k <= 7; k++) {
            asked.item(k, k);
            asked.number(k);
            asked.byteOf(k, k);
            asked.count(k);
            asked.written(k);
        }
        asked.place();
        asked.check();
        Probe.due("name()", asked.name(), 2);
        Probe.due("value(0)", asked.value(0), 3);
        Probe.due("end()", asked.end(), 4);
        Probe.due("write(0)", asked.write(0), 4 + 1 + 2 + 1 + 1);
    }
}
