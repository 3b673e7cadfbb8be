import java.util.ArrayList;
import java.util.List;

/** "What it is" and "Not promised": what the class is for, for how many calls, and what is left free. */
final class WhatItIsTest {
    private static final int NONE = GrinCoder.NONE;
    private static final int MOST_CALLS = 512;

    private WhatItIsTest() {
    }

    public static void main(String[] args) throws InterruptedException {
        writtenAndReadAgain();
        numbersOfFewBytes();
        textsToldShort();
        toldByWhereTheyWere();
        sevenBitsAtATime();
        calls512();
        laterCalls();
        whatIsFree();
        objectsOfTheirOwn();
        severalThreads();
        behindCall512();
        Probe.finish();
    }

    /** Lists and named parts within each other, with every kind of value. */
    private static Run anyValues() {
        Run x = new Run();
        x.value(5);
        x.value(6);
        x.name("6E616D65");
        x.text("74657874");
        x.name("C3A9");
        x.value(5);
        for (int kind = 0; kind <= 2; kind++) {
            x.value(kind);
        }
        x.end();
        x.name("6E616D65");
        x.bytes("00FF7F80");
        x.end();
        x.text("74657874");
        x.integer(-1234567890123L);
        x.real(0x40490FDBL, 0);
        x.real(0x400921FB54442D18L, 1);
        x.end();
        return x;
    }

    private static final String ANY_ITEMS = "0[ 1{ 2k6E616D65 2s74657874 2kC3A9 2[ 3n 3f 3t 2] 2k6E616D65 2b00FF7F80 1]"
        + " 1s74657874 1i-1234567890123 1r1078530011 1R4614256656552045848 0]";

    private static void writtenAndReadAgain() {
        Probe.sentence("What it is", "Values of lists and named parts written as bytes in a published binary form, and"
            + " read again:");
        for (int flags = 0; flags <= 7; flags++) {
            Run x = anyValues();
            Probe.due("made", x.items(), ANY_ITEMS);
            int n = x.write(flags);
            String all = x.writtenFrom(0);
            Probe.due("as bytes", all.length() / 2, n);
            x.drop();
            Probe.due("loop()", x.loop(), n);
            Probe.due("read()", x.read(), 0);
            Probe.due("read again", x.items(), ANY_ITEMS);
            x.write(flags);
            Probe.due("written again", x.writtenFrom(0), all);
            Run other = new Run();
            other.loads(all);
            Probe.due("read() of another object", other.read(), 0);
            Probe.due("read by another object", other.items(), ANY_ITEMS);
        }
    }

    private static void numbersOfFewBytes() {
        Probe.sentence("What it is", "numbers of few bytes,");
        long[] numbers = {0, -16, 15, 16, -32, 32, -4096, 4096, -524288, 524288, -67108864, 67108864, Integer.MIN_VALUE,
            Integer.MAX_VALUE + 1L, -8589934592L, 8589934592L, Long.MAX_VALUE};
        int[] bytes = {1, 1, 1, 2, 2, 3, 3, 4, 4, 5, 5, 6, 6, 6, 6, 7, 11};
        for (int k = 0; k < numbers.length; k++) {
            Run x = new Run();
            x.integer(numbers[k]);
            Probe.due("bytes of " + numbers[k], x.write(0), 4 + bytes[k]);
        }
    }

    private static void textsToldShort() {
        Probe.sentence("What it is", "texts told short,");
        for (int n : new int[] {0, 1, 2, 32, 33, 34, 63, 64, 65, 66, 1000}) {
            for (String some : new String[] {Probe.times("61", n), n % 2 == 0 ? Probe.times("C3A9", n / 2) : ""}) {
                int length = some.length() / 2;
                Run x = new Run();
                x.text(some);
                Probe.due("bytes of a text of " + length, x.write(0), 4 + 1 + length + (length > 64 ? 1 : 0));
            }
        }
    }

    private static void toldByWhereTheyWere() {
        Probe.sentence("What it is", "names and texts that were there told by where they were,");
        String name = Probe.times("6E", 40);
        String text = Probe.times("74", 50);
        Run x = new Run();
        x.value(6);
        for (int k = 0; k < 10; k++) {
            x.name(name);
            x.text(text);
        }
        x.end();
        int once = 41 + 51;
        Probe.due("in full each time", x.write(0), 4 + 1 + 10 * once + 1);
        Probe.due("told by their places", x.write(3), 4 + 1 + once + 9 * 2 + 1);
        x.loop();
        Probe.due("read()", x.read(), 0);
        for (int k = 0; k < 10; k++) {
            Probe.due("name " + k, x.bytesOf(1 + 2 * k), name);
            Probe.due("text " + k, x.bytesOf(2 + 2 * k), text);
        }
    }

    private static void sevenBitsAtATime() {
        Probe.sentence("What it is", "raw bytes seven bits at a time.");
        for (int n : new int[] {1, 6, 7, 8, 14, 15, 63, 64, 1000}) {
            Run x = new Run();
            x.bytes(Probe.times("FF", n));
            int counted = n < 64 ? 1 : 2;
            int bytes = (8 * n + 6) / 7;
            Probe.due("bytes of " + n, x.write(0), 4 + 1 + counted + bytes);
            for (int k = 4 + 1 + counted; k < 4 + 1 + counted + bytes; k++) {
                Probe.due("seven bits of " + n + " at most", x.written(k) >> 7, 0);
            }
        }
    }

    /** 512 calls on one object, all of which answer as due; how many there were. */
    private static int callsUpTo512(GrinCoder x) {
        int calls = 0;
        for (int round = 0; round < 16; round++) {
            Probe.due("value(5)", x.value(5), 1);
            Probe.due("type()", x.type(0x616263, 3), 3);
            Probe.due("value(3)", x.value(3), 2);
            Probe.due("value(6)", x.value(6), 3);
            Probe.due("type()", x.type(0xC3A9, 2), 2);
            Probe.due("name()", x.name(), 4);
            Probe.due("integer()", x.integer(round), 5);
            Probe.due("end()", x.end(), 6);
            Probe.due("real()", x.real(round, round % 2), 7);
            Probe.due("end()", x.end(), 8);
            Probe.due("end() of none", x.end(), NONE);
            Probe.due("check()", x.check(), 1);
            Probe.due("count(0)", x.count(0), 8);
            Probe.due("write()", x.write(round % 8), writtenIn(round));
            Probe.due("written(4)", x.written(4), 0xF8);
            Probe.due("drop()", x.drop(), 8);
            Probe.due("read() of none", x.read(), 1);
            Probe.due("place()", x.place(), 0);
            Probe.due("loop()", x.loop(), writtenIn(round));
            Probe.due("load()", x.load(0, 1), writtenIn(round) + 1);
            Probe.due("read() of more", x.read(), 8);
            Probe.due("place()", x.place(), writtenIn(round));
            Probe.due("count(0)", x.count(0), 0);
            Probe.due("loop()", x.loop(), writtenIn(round));
            Probe.due("read()", x.read(), 0);
            Probe.due("place()", x.place(), NONE);
            Probe.due("item(6, 0)", x.item(6, 0), 8 + round % 2);
            Probe.due("number(4)", x.number(4), round);
            Probe.due("number(6)", x.number(6), round);
            Probe.due("byteOf(1, 2)", x.byteOf(1, 2), 0x63);
            Probe.due("value() of a whole one", x.value(0), NONE);
            Probe.due("drop()", x.drop(), 8);
            calls += 32;
        }
        return calls;
    }

    /** How many bytes a round of the 512 calls writes. */
    private static int writtenIn(int round) {
        return 4 + 1 + 4 + 1 + 3 + 1 + 1 + (round % 2 == 0 ? 6 : 11) + 1;
    }

    private static void calls512() {
        Probe.sentence("What it is", "An object is used for at most 512 calls after it has been made;");
        Probe.due("calls", callsUpTo512(new GrinCoder()), MOST_CALLS);
        GrinCoder x = new GrinCoder();
        x.value(5);
        for (int call = 2; call <= MOST_CALLS; call++) {
            Probe.due("call " + call, x.integer(call), call);
        }
    }

    private static void laterCalls() {
        Probe.sentence("What it is", "what later calls answer is free.");
        // None of them may throw all the same (a rule of the language): they are tried up to all limits.
        GrinCoder x = new GrinCoder();
        callsUpTo512(x);
        x.value(5);
        for (int k = 0; k < 2000; k++) {
            x.type(0x6161616161616161L, 8);
            x.value(k % 2 + 3);
            x.load(0xF8F8F8F8F8F8F8F8L, 8);
            x.end();
        }
        x.drop();
        for (int k = 0; k < 800; k++) {
            x.value(6);
            x.name();
            x.type(-1, 8);
            x.value(4);
        }
        for (int k = 0; k < 100; k++) {
            x.end();
            x.write(k % 8);
            x.loop();
            x.read();
        }
        Probe.due("check()", x.check(), 1);
    }

    private static void whatIsFree() {
        Probe.sentence("Not promised", "How the state is held inside the object is free, as are the speed of each call,"
            + " the text of toString and the behaviour of equals and hashCode.");
        // Whatever these answer, they change nothing.
        GrinCoder x = new GrinCoder();
        x.value(6);
        x.type(0x61, 1);
        GrinCoder other = new GrinCoder();
        Probe.due("toString() is there", x.toString() == null ? 0 : 1, 1);
        Probe.due("equals() of itself, as all objects have it", x.equals(x) ? 1 : 0, 1);
        Probe.due("hashCode(), twice", x.hashCode(), x.hashCode());
        x.equals(other);
        x.equals(null);
        Probe.due("name()", x.name(), 2);
        Probe.due("value(0)", x.value(0), 3);
        Probe.due("end()", x.end(), 4);
        Probe.due("write(0)", x.write(0), 9);
        Probe.due("the other has nothing", other.count(0) + other.count(5), 0);
    }

    private static void objectsOfTheirOwn() {
        Probe.sentence("Not promised", "How the state is held inside the object is free,");
        // It is held inside: calls on one object by turns with those on another change nothing there.
        GrinCoder one = new GrinCoder();
        GrinCoder other = new GrinCoder();
        one.value(5);
        other.value(6);
        one.type(0x61, 1);
        Probe.due("none typed there", other.count(3), 0);
        other.type(0x6262, 2);
        Probe.due("the name there", other.name(), 2);
        Probe.due("the text here", one.value(3), 2);
        one.end();
        Probe.due("open there", other.count(1), 0);
        other.integer(7);
        other.end();
        one.write(2);
        Probe.due("none written there", other.count(5), 0);
        other.write(1);
        one.loop();
        Probe.due("none loaded there", other.count(4), 0);
        other.loop();
        Probe.due("read() here", one.read(), 0);
        other.load(0, 1);
        Probe.due("read() there", other.read(), 8);
        Probe.due("place() here", one.place(), NONE);
        Probe.due("items here", one.item(1, 0), 3);
        Probe.due("items there", other.item(1, 0), 10);
        Probe.due("bytes here", one.byteOf(1, 0), 0x61);
        Probe.due("bytes there", other.byteOf(1, 0), 0x62);
        one.drop();
        Probe.due("still there", other.count(0), 4);
    }

    private static void severalThreads() throws InterruptedException {
        Probe.sentence("Not promised", "Use of one object from several threads at once is not promised to be safe.");
        // That is said of one object: others, each in a thread of its own, don't disturb each other.
        String due = manyAnswers();
        List<Thread> threads = new ArrayList<>();
        String[] got = new String[8];
        for (int k = 0; k < got.length; k++) {
            int own = k;
            threads.add(new Thread(() -> got[own] = manyAnswers()));
        }
        for (Thread thread : threads) {
            thread.start();
        }
        for (int k = 0; k < got.length; k++) {
            threads.get(k).join();
            Probe.due("answers in thread " + k, String.valueOf(got[k]), due);
        }
    }

    /** What many objects, one behind the other, answer to the same calls. */
    private static String manyAnswers() {
        StringBuilder all = new StringBuilder();
        for (int round = 0; round < 200; round++) {
            GrinCoder x = new GrinCoder();
            x.value(6);
            for (int k = 0; k < 40; k++) {
                x.type(0x6100 + (k * 7 + round) % 11, 2);
                x.name();
                x.type(0x6200 + (k * 5 + round) % 13, 2);
                x.value(3 + k % 2);
            }
            x.end();
            all.append(x.write(round % 8)).append(' ');
            x.loop();
            all.append(x.read()).append(' ').append(x.write(3)).append(' ').append(x.written(round)).append(' ');
        }
        return all.toString();
    }

    private static void behindCall512() {
        Probe.sentence("Not promised", "and nothing about an object after its 512th call.");
        // A new object still answers as due then.
        GrinCoder old = new GrinCoder();
        callsUpTo512(old);
        for (int k = 0; k < 1000; k++) {
            old.value(k % 7);
            old.type(k, 8);
        }
        Probe.due("calls on a new one", callsUpTo512(new GrinCoder()), MOST_CALLS);
    }
}
