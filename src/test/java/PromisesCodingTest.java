/** Promises 9 to 14: how a document is written and read, and what stays when that is refused. */
final class PromisesCodingTest {
    private static final int NONE = GrinCoder.NONE;
    private static final int FULL = GrinCoder.FULL;
    private static final int[] FAR = {Integer.MIN_VALUE, Integer.MAX_VALUE};

    public static void main(String[] args) {
        constants();
        writes();
        writtenStaysWhenNotWhole();
        writtenStaysWithoutSuchFlags();
        writtenUpTo6000();
        writtenOf6001();
        writtenBytes();
        writtenLatest();
        loads();
        loadsOf1To8();
        loadsUpTo6000();
        loops();
        loopsOfAll();
        loadedAreNoneThen();
        readsTheDocument();
        readsAndTheDocumentStays();
        placeOfTheLatest();
        placesOf1To3();
        placesOf4To7();
        placeOf8();
        noPlace();
        Probe.finish();
    }

    /** A call that changes nothing that can be seen. */
    private interface Call {
        int on(Run x);
    }

    private static void refused(String what, Run x, int answer, Call call) {
        String before = x.state();
        Probe.due(what, call.on(x), answer);
        Probe.due("all there is behind " + what, x.state(), before);
    }

    private static void constants() {
        Probe.sentence("Terms", "The constants: `NONE = -1`: There is none, or nothing is done.");
        Probe.due("NONE", GrinCoder.NONE, -1);
        Probe.sentence("Terms", "`FULL = -2`: It would be too long.");
        Probe.due("FULL", GrinCoder.FULL, -2);
    }

    private static void writes() {
        Probe.sentence("Promise 9", "Writes the document with flags: how many bytes.");
        for (int flags = 0; flags <= 7; flags++) {
            Run x = new Run();
            x.value(5);
            x.text("61");
            x.text("61");
            x.bytes("FFFF");
            x.end();
            String items = x.items();
            int n = 4 + 1 + 2 + ((flags & 2) != 0 ? 1 : 2) + ((flags & 4) != 0 ? 4 : 5) + 1;
            Probe.due("write(" + flags + ")", x.write(flags), n);
            Probe.due("count(5)", x.count(5), n);
            Probe.due("written(3)", x.written(3), flags);
            Probe.due("the document stays", x.items(), items);
            Probe.due("it stays whole", x.count(1), 1);
        }
    }

    private static void writtenStaysWhenNotWhole() {
        Probe.sentence("Promise 9", "NONE, and what was written stays, when it is not whole,");
        Run x = new Run();
        refused("write(0) without a document, none written", x, NONE, y -> y.write(0));
        x.integer(5);
        x.write(1);
        x.drop();
        x.types("61");
        refused("write(0) without a document", x, NONE, y -> y.write(0));
        x.value(6);
        refused("write(0) of an open one", x, NONE, y -> y.write(0));
        x.name();
        refused("write(7) behind a name", x, NONE, y -> y.write(7));
        x.value(5);
        x.end();
        refused("write(0) of one that is still open", x, NONE, y -> y.write(0));
        Probe.due("what was written", x.writtenFrom(0), "3A290A01CA");
        x.end();
        Probe.due("write(0) of a whole one", x.write(0), 4 + 1 + 2 + 2 + 1);
    }

    private static void writtenStaysWithoutSuchFlags() {
        Probe.sentence("Promise 9", "or there are no such flags;");
        Run x = new Run();
        x.integer(5);
        for (int round = 0; round < 2; round++) {
            for (int flags : new int[] {-1, -8, 8, 9, 15, 16, 256, FAR[0], FAR[1]}) {
                refused("write(" + flags + ")", x, NONE, y -> y.write(flags));
            }
            Probe.due("write(7)", x.write(7), 5);
            Probe.due("write(0)", x.write(0), 5);
        }
    }

    /** An array of 1198 texts of 4 bytes, and more; 5 bytes are written for each of them without flags. */
    private static Run nearly6000(String more) {
        return Run.of(2, "F8" + "4361626364" + Probe.times("01", 1197) + more + "F9");
    }

    private static void writtenUpTo6000() {
        Probe.sentence("Promise 9", "FULL likewise, when it would be more than 6000.");
        Run x = nearly6000("21212121");
        Probe.due("write to 6000", x.write(0), 6000);
        Probe.due("count(5)", x.count(5), 6000);
        Probe.due("its last byte", x.written(5999), 0xF9);
        Probe.due("none behind it", x.written(6000), NONE);
        Probe.due("all of it", x.writtenFrom(4), "F8" + Probe.times("4361626364", 1198) + "21212121F9");
        Run y = nearly6000("212121");
        Probe.due("write to 5999", y.write(0), 5999);
    }

    private static void writtenOf6001() {
        Probe.sentence("Promise 9", "FULL likewise, when it would be more than 6000.");
        for (String more : new String[] {"2121212121", "21212124A0", "212121416162", "2121E8810000", "212121F8F9",
            "476162636465666768"}) {
            Run x = nearly6000(more);
            refused("write to 6001 and more, none written", x, FULL, y -> y.write(0));
            Probe.due("write with places", x.write(2), 4 + 1 + 5 + 1197 + more.length() / 2 + 1);
            refused("write to 6001 and more", x, FULL, y -> y.write(0));
            refused("write to 6001 and more, with other flags", x, FULL, y -> y.write(5));
            refused("write with no such flags", x, NONE, y -> y.write(8));
            Probe.due("write with places again", x.write(3), 4 + 1 + 5 + 1197 + more.length() / 2 + 1);
        }
    }

    private static void writtenBytes() {
        Probe.sentence("Promise 10", "Byte k of what was written latest; NONE when there is none.");
        Run x = new Run();
        Probe.due("written(0) of none", x.written(0), NONE);
        x.bytes("00FF");
        Probe.due("written(0) before write()", x.written(0), NONE);
        x.write(4);
        int[] due = {0x3A, 0x29, 0x0A, 4, 0xFD, 0x82, 0x00, 0xFF};
        for (int k = 0; k < due.length; k++) {
            Probe.due("written(" + k + ")", x.written(k), due[k]);
        }
        for (int k : new int[] {-1, due.length, due.length + 1, 5999, 6000, FAR[0], FAR[1]}) {
            Probe.due("written(" + k + ")", x.written(k), NONE);
        }
    }

    private static void writtenLatest() {
        Probe.sentence("Promise 10", "Byte k of what was written latest;");
        Run x = new Run();
        x.text("616263");
        x.write(0);
        Probe.due("a longer one", x.writtenFrom(0), "3A290A0042616263");
        x.drop();
        Probe.due("behind drop()", x.writtenFrom(0), "3A290A0042616263");
        x.value(0);
        x.write(1);
        Probe.due("a shorter one", x.writtenFrom(0), "3A290A0121");
        Probe.due("none of the longer one", x.written(5), NONE);
        x.reads(0, "23");
        Probe.due("behind read()", x.writtenFrom(0), "3A290A0121");
        x.write(2);
        Probe.due("what was read", x.writtenFrom(0), "3A290A0223");
    }

    private static void loads() {
        Probe.sentence("Promise 11", "Bytes to be read, behind others, like type(), at most 6000.");
        Run x = new Run();
        Probe.due("the 2 lowest", x.load(0x77773A29L, 2), 2);
        Probe.due("the 1 lowest", x.load(0xFFFFFF0AL, 1), 3);
        Probe.due("8 bytes", x.load(0x00FA8061C98062DEL, 8), 11);
        Probe.due("the 1 lowest", x.load(0x12345678FBL, 1), 12);
        Probe.due("count(4)", x.count(4), 12);
        Probe.due("none typed", x.count(3), 0);
        Probe.due("read()", x.read(), 0);
        Probe.due("items", x.items(), "0{ 1k61 1i-5 1k62 1i15 0]");
    }

    private static void loadsOf1To8() {
        Probe.sentence("Promise 11", "Bytes to be read, behind others, like type(), at most 6000.");
        Run some = new Run();
        some.loads("3A290A0021");
        for (Run x : new Run[] {new Run(), some}) {
            for (int n : new int[] {-1, 0, 9, 10, 16, -8, FAR[0], FAR[1]}) {
                refused("load(33, " + n + ")", x, NONE, y -> y.load(33, n));
            }
            int before = x.count(4);
            Probe.due("load(33, 1)", x.load(33, 1), before + 1);
            Probe.due("load(33, 8)", x.load(33, 8), before + 9);
        }
    }

    private static void loadsUpTo6000() {
        Probe.sentence("Promise 11", "Bytes to be read, behind others, like type(), at most 6000.");
        // No 512 calls load so many: what was written comes first.
        Run x = nearly6000("212121");
        x.write(0);
        Probe.due("loop()", x.loop(), 5999);
        refused("load to 6001", x, NONE, y -> y.load(0, 2));
        refused("load to 6007", x, NONE, y -> y.load(0, 8));
        Probe.due("load to 6000", x.load(0x21, 1), 6000);
        refused("load to 6001", x, NONE, y -> y.load(0, 1));
        Probe.due("count(4)", x.count(4), 6000);
        Probe.due("read()", x.read(), 8);
        Probe.due("place()", x.place(), 5999);
        Probe.due("load(), again", x.load(0, 8), 8);
        Run y = nearly6000("F8F9");
        y.write(0);
        y.loop();
        Probe.due("load 2 to 6000", y.load(0, 2), 6000);
        Run z = nearly6000("21212121");
        z.write(0);
        Probe.due("loop() of 6000", z.loop(), 6000);
        refused("load to 6001", z, NONE, w -> w.load(0, 1));
        Probe.due("read()", z.read(), 0);
    }

    private static void loops() {
        Probe.sentence("Promise 12", "All that was written is to be read, in place of others: how many bytes.");
        Run x = new Run();
        x.loads("3A290A0021");
        Probe.due("loop(), none written", x.loop(), 0);
        Probe.due("none loaded", x.count(4), 0);
        Probe.due("read()", x.read(), 1);
        x.value(5);
        x.text("C3A9");
        x.end();
        x.write(0);
        x.loads("3A290A0021");
        Probe.due("loop() in place of others", x.loop(), 9);
        Probe.due("loop() again", x.loop(), 9);
        Probe.due("count(4)", x.count(4), 9);
        Probe.due("what was written stays", x.writtenFrom(0), "3A290A00F880C3A9F9");
        x.drop();
        Probe.due("read()", x.copy().read(), 0);
        Probe.due("load() behind it", x.load(0x21, 1), 10);
        Probe.due("read()", x.read(), 8);
        Probe.due("place()", x.place(), 9);
        Probe.due("loop() behind read()", x.loop(), 9);
        Probe.due("read()", x.read(), 0);
        Probe.due("items", x.items(), "0[ 1sC3A9 0]");
    }

    private static void loopsOfAll() {
        Probe.sentence("Promise 12", "All that was written is to be read,");
        Run x = nearly6000("21212121");
        String items = x.items();
        x.write(0);
        Probe.due("loop()", x.loop(), 6000);
        x.drop();
        Probe.due("read()", x.read(), 0);
        Probe.due("items", x.items(), items);
    }

    private static void loadedAreNoneThen() {
        Probe.sentence("Promise 13", "Reads the loaded bytes, which are none then:");
        Run x = new Run();
        x.loads("3A290A0021");
        Probe.due("read()", x.read(), 0);
        Probe.due("count(4)", x.count(4), 0);
        Probe.due("read() of none", x.read(), 1);
        Probe.due("place()", x.place(), 0);
        String[] wrong = {"FF", "3A290A00", "3A290A0000", "3A290A004080", "3A290A0201", "3A290A00242000000080",
            "3A290A00" + Probe.times("F8", 31), "3A290A002121"};
        for (int k = 0; k < wrong.length; k++) {
            x.loads(wrong[k]);
            Probe.due("read() of fault " + (k + 1), x.read(), k + 1);
            Probe.due("count(4) behind fault " + (k + 1), x.count(4), 0);
            Probe.due("load() behind fault " + (k + 1), x.load(0x3A, 1), 1);
            x.loop();
        }
    }

    private static void readsTheDocument() {
        Probe.sentence("Promise 13", "0, and what they tell is the document;");
        Run x = new Run();
        x.value(6);
        x.name("61");
        x.types("7A7A");
        Probe.due("read()", x.reads(0, "F8C1F9"), 0);
        Probe.due("items", x.items(), "0[ 1i-1 0]");
        Probe.due("whole", x.count(1), 1);
        Probe.due("bytes", x.count(2), 0);
        Probe.due("typed stays", x.count(3), 2);
        Probe.due("nothing may come", x.value(3), NONE);
        Probe.due("read() again", x.reads(0, "42616263"), 0);
        Probe.due("items", x.items(), "0s616263");
        Probe.due("bytes", x.count(2), 3);
        Probe.due("read() again", x.reads(0, "20"), 0);
        Probe.due("items", x.items(), "0s");
        Probe.due("drop()", x.drop(), 1);
        Probe.due("value(3)", x.value(3), 1);
        Probe.due("items", x.items(), "0s7A7A");
    }

    private static void readsAndTheDocumentStays() {
        Probe.sentence("Promise 13", "or the fault, and that stays.");
        String[] wrong = {"", "3A290A00F84061", "3A290A00F84061FF", "3A290A00F821214080", "3A290A02F8406102",
            "3A290A00F84061242000000080", "3A290A00" + Probe.times("F8", 31), "3A290A00F84061F900"};
        Run open = new Run();
        open.value(6);
        open.name("7A");
        open.value(5);
        Run named = new Run();
        named.value(6);
        named.name("7A7A");
        Run whole = new Run();
        whole.text("7A");
        Run read = Run.of(0, "FA8061427A7A7AFB");
        for (Run x : new Run[] {new Run(), open, named, whole, read}) {
            String items = x.items();
            int bytes = x.count(2);
            for (int k = 0; k < wrong.length; k++) {
                x.loads(wrong[k]);
                Probe.due("read()", x.read(), k + 1);
                Probe.due("items behind fault " + (k + 1), x.items(), items);
                Probe.due("bytes behind fault " + (k + 1), x.count(2), bytes);
            }
            Probe.due("check()", x.check(), 1);
        }
        Probe.due("the open one goes on", open.value(0), 4);
        Probe.due("the open one ends", open.end(), 5);
        Probe.due("the named one goes on", named.value(0), 3);
        Probe.due("the whole one is whole", whole.value(0), NONE);
    }

    private static void placed(String hex, int fault, int place) {
        Run x = new Run();
        x.loads(hex);
        Probe.due("read() of " + Probe.brief(hex), x.read(), fault);
        Probe.due("place() of " + Probe.brief(hex), x.place(), place);
    }

    private static void placeOfTheLatest() {
        Probe.sentence("Promise 14", "The number, from 0, of the byte with the fault of the latest read():");
        Run x = new Run();
        x.reads(0, "F82100");
        Probe.due("place()", x.place(), 6);
        x.integer(1);
        x.write(0);
        x.types("61");
        x.loads("3A290A0021");
        x.loop();
        x.drop();
        Probe.due("place() before another read()", x.place(), 6);
        x.reads(0, "F9");
        Probe.due("place() of bytes behind what was looped", x.place(), 5);
        x.read();
        Probe.due("place() of none", x.place(), 0);
    }

    private static void placesOf1To3() {
        Probe.sentence("Promise 14", "for 1, 2, 3 that which is wrong or missing,");
        placed("", 1, 0);
        placed("3A", 1, 1);
        placed("3A29", 1, 2);
        placed("3A290A", 1, 3);
        placed("00290A0021", 1, 0);
        placed("3A290A0821", 1, 3);
        placed("3A290A00", 2, 4);
        placed("3A290A00F821", 2, 6);
        placed("3A290A005F" + Probe.times("61", 31), 2, 36);
        placed("3A290A00E0" + Probe.times("61", 70), 2, 75);
        placed("3A290A04FDBF" + Probe.times("61", 5), 2, 11);
        placed("3A290A0000", 3, 4);
        placed("3A290A00F82100", 3, 6);
        placed("3A290A0024000000007F", 3, 9);
        placed("3A290A00280000000080", 3, 9);
        placed("3A290A00E8827F80", 3, 7);
    }

    private static void placesOf4To7() {
        Probe.sentence("Promise 14", "for 4 to 7 the first one of its item,");
        placed("3A290A00F842616180", 4, 5);
        placed("3A290A00FA82616180", 4, 5);
        placed("3A290A00FA806142616180", 4, 7);
        placed("3A290A02F8EC00", 5, 5);
        placed("3A290A01FA3000", 5, 5);
        placed("3A290A00F8242000000080", 6, 5);
        placed("3A290A00F8281000000000", 6, 5);
        placed("3A290A00F8E8817F02", 6, 5);
        placed("3A290A00" + Probe.times("F8", 31), 7, 34);
        placed("3A290A00F8" + Probe.times("21", 1499) + "42616161", 7, 1504);
        placed("3A290A02F87F" + Probe.times("61", 64) + Probe.times("01", 77) + "E889" + Probe.times("00", 11), 7,
            4 + 1 + 65 + 77);
    }

    private static void placeOf8() {
        Probe.sentence("Promise 14", "for 8 the first one behind the value;");
        placed("3A290A002121", 8, 5);
        placed("3A290A0021" + Probe.times("00", 30), 8, 5);
        placed("3A290A00F8F9F9", 8, 6);
        placed("3A290A00E061FCFC", 8, 7);
    }

    private static void noPlace() {
        Probe.sentence("Promise 14", "NONE when it had none.");
        Run x = new Run();
        Probe.due("place() before read()", x.place(), NONE);
        x.reads(0, "21");
        Probe.due("place() behind a good read()", x.place(), NONE);
        x.reads(0, "FF");
        Probe.due("place() behind a fault", x.place(), 4);
        x.reads(0, "21");
        Probe.due("place() behind a good read() again", x.place(), NONE);
    }
}
