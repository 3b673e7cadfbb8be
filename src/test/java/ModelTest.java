import java.io.ByteArrayOutputStream;
import java.nio.charset.StandardCharsets;
import java.util.Arrays;
import java.util.Random;

/** Runs of chosen and of chance calls, each answer compared with the model's. */
final class ModelTest {
    private static final int MOST_CALLS = 512;
    private static final String[] CALLS = {"type", "value", "integer", "real", "name", "end", "drop", "write",
        "written", "load", "loop", "read", "place", "item", "number", "byteOf", "count", "check"};

    private final Random chance;
    private final GrinCoder coder = new GrinCoder();
    private final Model model = new Model();
    private final String run;
    private int calls = 0;

    private ModelTest(long seed) {
        chance = new Random(seed);
        run = "run " + seed + ", call ";
    }

    public static void main(String[] args) {
        for (int seed = 0; seed < 600; seed++) {
            new ModelTest(seed).anyCalls();
            new ModelTest(seed).madeDocuments();
            new ModelTest(seed).wrongedBytes();
        }
        for (int seed = 0; seed < 60; seed++) {
            new ModelTest(seed).manyTexts();
            new ModelTest(seed).endOfRoom();
        }
        Probe.finish();
    }

    private long call(String call, long a, int b) {
        if (calls >= MOST_CALLS) {
            return -1;
        }
        calls++;
        long got = answer(call, a, b);
        long want = due(call, a, b);
        Probe.due(run + calls + ": " + call + "(" + a + ", " + b + ")", got, want);
        return got;
    }

    private long answer(String call, long a, int b) {
        switch (call) {
            case "type": return coder.type(a, b);
            case "value": return coder.value((int) a);
            case "integer": return coder.integer(a);
            case "real": return coder.real(a, b);
            case "name": return coder.name();
            case "end": return coder.end();
            case "drop": return coder.drop();
            case "write": return coder.write((int) a);
            case "written": return coder.written((int) a);
            case "load": return coder.load(a, b);
            case "loop": return coder.loop();
            case "read": return coder.read();
            case "place": return coder.place();
            case "item": return coder.item((int) a, b);
            case "number": return coder.number((int) a);
            case "byteOf": return coder.byteOf((int) a, b);
            case "count": return coder.count((int) a);
            default: return coder.check();
        }
    }

    private long due(String call, long a, int b) {
        switch (call) {
            case "type": return model.type(a, b);
            case "value": return model.value((int) a);
            case "integer": return model.integer(a);
            case "real": return model.real(a, b);
            case "name": return model.name();
            case "end": return model.end();
            case "drop": return model.drop();
            case "write": return model.write((int) a);
            case "written": return model.written((int) a);
            case "load": return model.load(a, b);
            case "loop": return model.loop();
            case "read": return model.read();
            case "place": return model.place();
            case "item": return model.item((int) a, b);
            case "number": return model.number((int) a);
            case "byteOf": return model.byteOf((int) a, b);
            case "count": return model.count((int) a);
            default: return model.check();
        }
    }

    private long anyNumber() {
        switch (chance.nextInt(5)) {
            case 0: return chance.nextInt(8);
            case 1: return chance.nextInt(64) - 32;
            case 2: return chance.nextInt();
            case 3: return (1L << chance.nextInt(64)) + chance.nextInt(3) - 1;
            default: return chance.nextLong() >> chance.nextInt(64);
        }
    }

    private void anyCalls() {
        for (int k = 0; k < MOST_CALLS; k++) {
            call(CALLS[chance.nextInt(CALLS.length)], anyNumber(), chance.nextInt(12) - 1);
        }
    }

    private byte[] anyText() {
        StringBuilder text = new StringBuilder();
        int[] lengths = {0, 1, 1, 2, 3, 5, 31, 32, 33, 34, 56, 57, 58, 63, 64, 65, 70};
        int n = lengths[chance.nextInt(lengths.length)];
        int[] points = {0x61, 0x7F, 0x80, 0x7FF, 0x800, 0xFFFF, 0x10000, 0x10FFFF};
        boolean ascii = chance.nextBoolean();
        for (int k = 0; k < n; k++) {
            text.appendCodePoint(ascii || chance.nextInt(4) > 0 ? 'a' + chance.nextInt(2)
                : points[chance.nextInt(points.length)]);
        }
        return text.toString().getBytes(StandardCharsets.UTF_8);
    }

    private void inEights(String call, byte[] row) {
        for (int k = 0; k < row.length; k += 8) {
            long number = chance.nextLong();
            int n = Math.min(8, row.length - k);
            for (int j = 0; j < n; j++) {
                number = number << 8 | row[k + j] & 255;
            }
            call(call, number, n);
        }
    }

    private void anyPart() {
        switch (chance.nextInt(9)) {
            case 0: call("integer", anyNumber(), 0); break;
            case 1: call("real", anyNumber(), chance.nextInt(2)); break;
            case 2: call("value", 5, 0); break;
            case 3: call("value", 6, 0); break;
            case 4: call("end", 0, 0); break;
            case 5: call("value", chance.nextInt(8), 0); break;
            default: inEights("type", anyText()); call("value", 3 + chance.nextInt(3) / 2, 0); break;
        }
    }

    private void makeDocument(int parts) {
        call("value", 5 + chance.nextInt(2), 0);
        for (int k = 0; k < parts; k++) {
            if (chance.nextInt(3) > 0) {
                inEights("type", anyText());
                call("name", 0, 0);
            }
            anyPart();
        }
        for (int k = 0; k < 40 && coder.count(1) == 0; k++) {
            if (call("end", 0, 0) == -1) {
                call("value", 0, 0);
            }
        }
    }

    private void anyQuestions() {
        while (calls < MOST_CALLS) {
            int i = chance.nextInt(Math.max(1, coder.count(0)) + 1) - chance.nextInt(2);
            switch (chance.nextInt(6)) {
                case 0: call("item", i, chance.nextInt(3)); break;
                case 1: call("number", i, 0); break;
                case 2: call("byteOf", i, chance.nextInt(10) - 1); break;
                case 3: call("written", chance.nextInt(coder.count(5) + 1), 0); break;
                case 4: call("count", chance.nextInt(7), 0); break;
                default: call("check", 0, 0); break;
            }
        }
    }

    private void madeDocuments() {
        makeDocument(10 + chance.nextInt(30));
        int flags = chance.nextInt(8);
        call("write", flags, 0);
        compareWritten();
        call("loop", 0, 0);
        call("read", 0, 0);
        call("place", 0, 0);
        compareItems();
        call("write", chance.nextInt(8), 0);
        compareWritten();
        anyQuestions();
    }

    /** What is compared whole is not counted as calls: it changes nothing. */
    private void compareWritten() {
        for (int k = -1; k <= model.count(5); k++) {
            Probe.due(run + calls + ": written(" + k + ")", coder.written(k), model.written(k));
        }
    }

    private void compareItems() {
        for (int i = -1; i <= model.count(0); i++) {
            for (int what = 0; what < 3; what++) {
                Probe.due(run + calls + ": item(" + i + ", " + what + ")", coder.item(i, what),
                    model.item(i, what));
            }
            Probe.due(run + calls + ": number(" + i + ")", coder.number(i), model.number(i));
            for (int k = -1; k <= model.item(i, 1); k++) {
                Probe.due(run + calls + ": byteOf(" + i + ", " + k + ")", coder.byteOf(i, k),
                    model.byteOf(i, k));
            }
        }
    }

    /** Bytes that are nearly right: of chosen signs, or written and then wronged. */
    private void wrongedBytes() {
        for (int k = 0; k < 12; k++) {
            if (chance.nextInt(3) == 0) {
                call("drop", 0, 0);
                makeDocument(chance.nextInt(6));
                call("write", chance.nextInt(8), 0);
                inEights("load", wronged(writtenBytes()));
            } else {
                inEights("load", anySigns(chance.nextInt(12)));
            }
            call("read", 0, 0);
            call("place", 0, 0);
            compareItems();
        }
        anyQuestions();
    }

    private byte[] writtenBytes() {
        byte[] row = new byte[coder.count(5)];
        for (int k = 0; k < row.length; k++) {
            row[k] = (byte) coder.written(k);
        }
        return row;
    }

    private byte[] wronged(byte[] row) {
        if (row.length == 0) {
            return row;
        }
        int[] edges = {0, 1, 0x1F, 0x20, 0x3F, 0x40, 0x7F, 0x80, 0xBF, 0xC0, 0xDF, 0xE0, 0xE8, 0xEC, 0xF7, 0xFC, 0xFF};
        switch (chance.nextInt(4)) {
            case 0: return Arrays.copyOf(row, chance.nextInt(row.length + 2));
            case 1: row[chance.nextInt(row.length)] = (byte) chance.nextInt(); return row;
            case 2: row[chance.nextInt(row.length)] = (byte) edges[chance.nextInt(edges.length)]; return row;
            default: row[chance.nextInt(row.length)] += (byte) (chance.nextInt(3) - 1); return row;
        }
    }

    private byte[] anySigns(int n) {
        ByteArrayOutputStream out = new ByteArrayOutputStream();
        out.writeBytes(Probe.bytes("3A290A"));
        out.write(chance.nextInt(8));
        out.write(chance.nextInt(4) == 0 ? 0xFA : 0xF8);
        for (int k = 0; k < n; k++) {
            anySign(out);
        }
        if (chance.nextInt(4) > 0) {
            out.write(0xF9 + 2 * chance.nextInt(2));
        }
        return out.toByteArray();
    }

    private void anySign(ByteArrayOutputStream out) {
        byte[] text = anyText();
        switch (chance.nextInt(14)) {
            case 0: out.write(chance.nextInt(256)); break;
            case 1: out.write(0x24); count(out, chance.nextInt(6)); break;
            case 2: out.write(0x25); count(out, chance.nextInt(11)); break;
            case 3: out.write(0x28); bits(out, 5); break;
            case 4: out.write(0x29); bits(out, 10); break;
            case 5: out.write(0xE8); int n = chance.nextInt(9); out.write(0x80 + n); bits(out, (8 * n + 6) / 7); break;
            case 6: out.write(0xFD); out.write(0x80 + text.length % 64); out.writeBytes(text); break;
            case 7: out.write(0xE0); out.writeBytes(text); out.write(0xFC); break;
            case 8: out.write(0xE4); out.writeBytes(text); out.write(0xFC); break;
            case 9: out.write(0x34); out.writeBytes(text); out.write(0xFC); break;
            case 10: out.write(0x80 + Math.min(text.length, 40)); out.writeBytes(text); break;
            case 11: out.write(1 + chance.nextInt(3)); break;
            case 12: out.write(0x3F + text.length % 32); out.writeBytes(text); break;
            default: out.write(0xEC); out.write(chance.nextInt(3)); break;
        }
    }

    private void count(ByteArrayOutputStream out, int before) {
        bits(out, before);
        out.write(0x80 + chance.nextInt(64));
    }

    private void bits(ByteArrayOutputStream out, int n) {
        for (int k = 0; k < n; k++) {
            out.write(chance.nextInt(k == 0 || k == n - 1 ? 6 : 128));
        }
    }

    /** So many texts or names that tables are filled, places can't be told, or room ends. */
    private void manyTexts() {
        ByteArrayOutputStream out = new ByteArrayOutputStream();
        out.writeBytes(Probe.bytes("3A290A"));
        out.write(chance.nextInt(4) == 0 ? 0 : 3);
        boolean parts = chance.nextInt(3) == 0;
        int[] sizes = {200, 260, 520, 700, 1024, 1030, 1100, 1490, 1510};
        int n = sizes[chance.nextInt(sizes.length)] / (parts ? 2 : 1);
        int others = 1 + chance.nextInt(1200);
        out.write(parts ? 0xFA : 0xF8);
        for (int k = 0; k < n && out.size() < 3800; k++) {
            if (parts) {
                oneOfMany(out, 0x81, k, others);
            }
            oneOfMany(out, 0x41, k, others);
        }
        out.write(parts ? 0xFB : 0xF9);
        inEights("load", out.toByteArray());
        call("read", 0, 0);
        call("place", 0, 0);
        compareItems();
        for (int flags = 0; flags < 8; flags++) {
            call("write", flags, 0);
            compareWritten();
        }
        call("loop", 0, 0);
        call("read", 0, 0);
        compareItems();
    }

    /** About as many items, bytes, or arrays within each other as there may be. */
    private void endOfRoom() {
        ByteArrayOutputStream out = new ByteArrayOutputStream();
        out.writeBytes(Probe.bytes("3A290A"));
        out.write(7);
        int depth = chance.nextInt(2) == 0 ? 1 : 29 + chance.nextInt(3);
        for (int k = 0; k < depth; k++) {
            out.write(0xF8);
        }
        int length = 1 + chance.nextInt(64);
        out.write(0x40 + length - 1);
        for (int k = 0; k < length; k++) {
            out.write('a');
        }
        int most = Math.min(5000 / length, 1500 - 2 * depth);
        int n = most - 3 + chance.nextInt(5);
        for (int k = 0; k < n; k++) {
            out.write(1);
        }
        anySign(out);
        for (int k = 0; k < depth; k++) {
            out.write(0xF9);
        }
        inEights("load", out.toByteArray());
        call("read", 0, 0);
        call("place", 0, 0);
        compareItems();
        call("write", chance.nextInt(8), 0);
        call("write", 0, 0);
        compareWritten();
        call("loop", 0, 0);
        call("read", 0, 0);
        compareItems();
    }

    private void oneOfMany(ByteArrayOutputStream out, int sign, int k, int others) {
        int which = chance.nextInt(4) == 0 ? chance.nextInt(others) : k % others;
        out.write(sign);
        out.write(0x30 + which / 64);
        out.write(0x20 + which % 64);
    }
}
