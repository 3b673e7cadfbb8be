import java.io.ByteArrayOutputStream;
import java.nio.ByteBuffer;
import java.nio.charset.CharacterCodingException;
import java.nio.charset.StandardCharsets;
import java.util.ArrayList;
import java.util.Arrays;
import java.util.List;

/** The document's words once more, with the Java library and by other ways, to be compared with. */
final class Model {
    private static final class Item {
        final int kind;
        final long number;
        final byte[] bytes;
        int depth;

        Item(int kind, long number, byte[] bytes) {
            this.kind = kind;
            this.number = number;
            this.bytes = bytes;
        }
    }

    private static final class Fault extends Exception {
        private static final long serialVersionUID = 1;
        final int code;
        final int place;

        Fault(int code, int place) {
            this.code = code;
            this.place = place;
        }
    }

    private List<Item> items = new ArrayList<>();
    private byte[] typed = new byte[0];
    private byte[] loaded = new byte[0];
    private byte[] written = new byte[0];
    private int place = -1;

    // What a list of items is, found anew from its first item on.

    private static List<Integer> open(List<Item> items) {
        List<Integer> open = new ArrayList<>();
        for (Item item : items) {
            if (item.kind == 5 || item.kind == 6) {
                open.add(item.kind);
            } else if (item.kind == 11) {
                open.remove(open.size() - 1);
            }
        }
        return open;
    }

    private static boolean isWhole(List<Item> items) {
        return !items.isEmpty() && open(items).isEmpty();
    }

    private static int byteSum(List<Item> items) {
        int sum = 0;
        for (Item item : items) {
            sum += item.bytes.length;
        }
        return sum;
    }

    private static boolean fits(List<Item> items, Item item) {
        boolean opens = item.kind == 5 || item.kind == 6;
        return items.size() < 1500 && byteSum(items) + item.bytes.length <= 5000
            && !(opens && open(items).size() == 30);
    }

    private static void append(List<Item> items, Item item) {
        items.add(item);
        boolean opens = item.kind == 5 || item.kind == 6;
        item.depth = open(items).size() - (opens ? 1 : 0);
    }

    private static boolean isText(byte[] bytes) {
        try {
            StandardCharsets.UTF_8.newDecoder().decode(ByteBuffer.wrap(bytes));
            return true;
        } catch (CharacterCodingException e) {
            return false;
        }
    }

    private static boolean isAscii(byte[] bytes) {
        for (byte b : bytes) {
            if (b < 0) {
                return false;
            }
        }
        return true;
    }

    private static byte[] joined(byte[] row, long number, int n, int most) {
        if (n < 1 || n > 8 || row.length + n > most) {
            return null;
        }
        byte[] more = Arrays.copyOf(row, row.length + n);
        byte[] eight = ByteBuffer.allocate(8).putLong(number).array();
        System.arraycopy(eight, 8 - n, more, row.length, n);
        return more;
    }

    // The calls.

    int type(long bytes, int n) {
        byte[] more = joined(typed, bytes, n, 1000);
        typed = more == null ? typed : more;
        return more == null ? -1 : typed.length;
    }

    int load(long bytes, int n) {
        byte[] more = joined(loaded, bytes, n, 6000);
        loaded = more == null ? loaded : more;
        return more == null ? -1 : loaded.length;
    }

    private int add(Item item) {
        List<Integer> open = open(items);
        boolean named = !items.isEmpty() && items.get(items.size() - 1).kind == 10;
        boolean inObject = !open.isEmpty() && open.get(open.size() - 1) == 6;
        boolean may;
        if (item.kind == 10) {
            may = inObject && !named;
        } else if (item.kind == 11) {
            may = !open.isEmpty() && !named;
        } else {
            may = items.isEmpty() || !open.isEmpty() && (!inObject || named);
        }
        if (!may || !fits(items, item)) {
            return -1;
        }
        append(items, item);
        return items.size();
    }

    private int addTyped(int kind) {
        if (kind != 4 && !isText(typed)) {
            return -1;
        }
        int answer = add(new Item(kind, 0, typed));
        if (answer != -1) {
            typed = new byte[0];
        }
        return answer;
    }

    int value(int kind) {
        if (kind < 0 || kind > 6) {
            return -1;
        }
        return kind == 3 || kind == 4 ? addTyped(kind) : add(new Item(kind, 0, new byte[0]));
    }

    int integer(long v) {
        return add(new Item(7, v, new byte[0]));
    }

    int real(long bits, int wide) {
        if (wide != 1 && wide != 0 || wide == 0 && (bits < 0 || bits > 0xFFFFFFFFL)) {
            return -1;
        }
        return add(new Item(8 + wide, bits, new byte[0]));
    }

    int name() {
        return addTyped(10);
    }

    int end() {
        return add(new Item(11, 0, new byte[0]));
    }

    int drop() {
        int had = items.size();
        items = new ArrayList<>();
        return had;
    }

    int written(int k) {
        return k < 0 || k >= written.length ? -1 : written[k] & 255;
    }

    int loop() {
        loaded = written;
        return loaded.length;
    }

    int place() {
        return place;
    }

    int item(int i, int what) {
        if (i < 0 || i >= items.size() || what < 0 || what > 2) {
            return -1;
        }
        Item item = items.get(i);
        return new int[] {item.kind, item.bytes.length, item.depth}[what];
    }

    long number(int i) {
        return i < 0 || i >= items.size() ? 0 : items.get(i).number;
    }

    int byteOf(int i, int k) {
        if (i < 0 || i >= items.size() || k < 0 || k >= items.get(i).bytes.length) {
            return -1;
        }
        return items.get(i).bytes[k] & 255;
    }

    int count(int what) {
        if (what < 0 || what > 5) {
            return -1;
        }
        return new int[] {items.size(), isWhole(items) ? 1 : 0, byteSum(items), typed.length, loaded.length,
            written.length}[what];
    }

    int check() {
        return 1;
    }

    // Writing.

    int write(int flags) {
        if (flags < 0 || flags > 7 || !isWhole(items)) {
            return -1;
        }
        ByteArrayOutputStream out = new ByteArrayOutputStream();
        out.writeBytes(new byte[] {0x3A, 0x29, 0x0A, (byte) flags});
        List<byte[]> names = new ArrayList<>();
        List<byte[]> texts = new ArrayList<>();
        List<Integer> open = new ArrayList<>();
        for (Item item : items) {
            switch (item.kind) {
                case 0: out.write(0x21); break;
                case 1: out.write(0x22); break;
                case 2: out.write(0x23); break;
                case 3: writeText(out, item.bytes, (flags & 2) != 0 ? texts : null); break;
                case 4: writeBytes(out, item.bytes, (flags & 4) != 0); break;
                case 5: out.write(0xF8); open.add(0xF9); break;
                case 6: out.write(0xFA); open.add(0xFB); break;
                case 7: writeInteger(out, item.number); break;
                case 8: out.write(0x28); writeBits(out, toBits(item.number, 35)); break;
                case 9: out.write(0x29); writeBits(out, "000000" + toBits(item.number, 64)); break;
                case 10: writeName(out, item.bytes, (flags & 1) != 0 ? names : null); break;
                default: out.write(open.remove(open.size() - 1)); break;
            }
        }
        if (out.size() > 6000) {
            return -2;
        }
        written = out.toByteArray();
        return written.length;
    }

    private static String toBits(long number, int n) {
        String bits = Long.toBinaryString(number);
        return "0".repeat(n - bits.length()) + bits;
    }

    private static void writeBits(ByteArrayOutputStream out, String bits) {
        for (int k = 0; k < bits.length(); k += 7) {
            out.write(Integer.parseInt(bits.substring(k, Math.min(k + 7, bits.length())), 2));
        }
    }

    private static void writeCount(ByteArrayOutputStream out, long count) {
        String bits = toBits(count, 69);
        int before = 0;
        while (before < 9 && !bits.substring(before * 7, before * 7 + 7).contains("1")) {
            before++;
        }
        writeBits(out, bits.substring(before * 7, 63));
        out.write(0x80 + Integer.parseInt(bits.substring(63), 2));
    }

    private static void writeInteger(ByteArrayOutputStream out, long v) {
        long zigzag = v >= 0 ? 2 * v : 2 * -v - 1;
        if (v >= -16 && v <= 15) {
            out.write(0xC0 + (int) zigzag);
            return;
        }
        out.write(v >= Integer.MIN_VALUE && v <= Integer.MAX_VALUE ? 0x24 : 0x25);
        writeCount(out, zigzag);
    }

    private static void writeBytes(ByteArrayOutputStream out, byte[] bytes, boolean raw) {
        out.write(raw ? 0xFD : 0xE8);
        writeCount(out, bytes.length);
        if (raw) {
            out.writeBytes(bytes);
            return;
        }
        StringBuilder bits = new StringBuilder();
        for (byte b : bytes) {
            bits.append(toBits(b & 255, 8));
        }
        writeBits(out, bits.toString());
    }

    /** The least place that can be told; what is not there is put there. */
    private static int told(List<byte[]> table, byte[] text) {
        if (table == null || text.length < 1 || text.length > 64) {
            return -1;
        }
        for (int k = 0; k < table.size(); k++) {
            if (k % 256 != 254 && k % 256 != 255 && Arrays.equals(table.get(k), text)) {
                return k;
            }
        }
        put(table, text);
        return -1;
    }

    private static void put(List<byte[]> table, byte[] text) {
        if (table.size() == 1024) {
            table.clear();
        }
        table.add(text);
    }

    private static void writeText(ByteArrayOutputStream out, byte[] text, List<byte[]> table) {
        int n = text.length;
        int told = told(table, text);
        if (told >= 31) {
            out.write(0xEC + told / 256);
            out.write(told % 256);
        } else if (told >= 0) {
            out.write(1 + told);
        } else if (n == 0) {
            out.write(0x20);
        } else if (n > 64) {
            out.write(isAscii(text) ? 0xE0 : 0xE4);
            out.writeBytes(text);
            out.write(0xFC);
        } else {
            int sign = n <= 32 ? 0x40 + n - 1 : 0x60 + n - 33;
            int sign8 = n <= 33 ? 0x80 + n - 2 : 0xA0 + n - 34;
            out.write(isAscii(text) ? sign : sign8);
            out.writeBytes(text);
        }
    }

    private static void writeName(ByteArrayOutputStream out, byte[] text, List<byte[]> table) {
        int n = text.length;
        int told = told(table, text);
        if (told >= 64) {
            out.write(0x30 + told / 256);
            out.write(told % 256);
        } else if (told >= 0) {
            out.write(0x40 + told);
        } else if (n == 0) {
            out.write(0x20);
        } else if (isAscii(text) && n <= 64) {
            out.write(0x80 + n - 1);
            out.writeBytes(text);
        } else if (!isAscii(text) && n <= 57) {
            out.write(0xC0 + n - 2);
            out.writeBytes(text);
        } else {
            out.write(0x34);
            out.writeBytes(text);
            out.write(0xFC);
        }
    }

    // Reading: values within each other by calls within each other.

    private byte[] in;
    private int at;
    private int flags;
    private List<Item> made;
    private List<byte[]> names;
    private List<byte[]> texts;

    int read() {
        in = loaded;
        loaded = new byte[0];
        made = new ArrayList<>();
        names = new ArrayList<>();
        texts = new ArrayList<>();
        try {
            readHead();
            at = 4;
            readValue();
            if (at < in.length) {
                throw new Fault(8, at);
            }
        } catch (Fault fault) {
            place = fault.place;
            return fault.code;
        }
        items = made;
        place = -1;
        return 0;
    }

    private void readHead() throws Fault {
        int[] head = {0x3A, 0x29, 0x0A};
        for (int k = 0; k < 3; k++) {
            if (in.length == k || in[k] != head[k]) {
                throw new Fault(1, k);
            }
        }
        if (in.length == 3 || (in[3] & 0xF8) != 0) {
            throw new Fault(1, 3);
        }
        flags = in[3];
    }

    private int next() throws Fault {
        if (at >= in.length) {
            throw new Fault(2, in.length);
        }
        return in[at++] & 255;
    }

    private byte[] next(long n) throws Fault {
        if (n > in.length - at) {
            throw new Fault(2, in.length);
        }
        at += (int) n;
        return Arrays.copyOfRange(in, at - (int) n, at);
    }

    private void keep(int first, int kind, long number, byte[] bytes) throws Fault {
        Item item = new Item(kind, number, bytes);
        if (!fits(made, item)) {
            throw new Fault(7, first);
        }
        append(made, item);
    }

    private void keepText(int first, int kind, byte[] text, boolean ascii) throws Fault {
        if (ascii ? !isAscii(text) : !isText(text)) {
            throw new Fault(4, first);
        }
        keep(first, kind, 0, text);
        if ((flags & (kind == 10 ? 1 : 2)) != 0 && text.length >= 1 && text.length <= 64) {
            put(kind == 10 ? names : texts, text);
        }
    }

    private void keepTold(int first, int kind, int high, int low) throws Fault {
        if ((flags & (kind == 10 ? 1 : 2)) == 0) {
            throw new Fault(3, first);
        }
        int where = high * 256 + (low == -1 ? next() : low);
        List<byte[]> table = kind == 10 ? names : texts;
        if (where >= table.size() || where % 256 >= 254) {
            throw new Fault(5, first);
        }
        keep(first, kind, 0, table.get(where));
    }

    private byte[] untilStop() throws Fault {
        ByteArrayOutputStream row = new ByteArrayOutputStream();
        for (int b = next(); b != 0xFC; b = next()) {
            row.write(b);
        }
        return row.toByteArray();
    }

    /** The bits of a count, as a text of 0 and 1. */
    private String countBits(int most) throws Fault {
        StringBuilder bits = new StringBuilder();
        for (int k = 1;; k++) {
            int b = next();
            if (b >= 0xC0 || b < 0x80 && k == most) {
                throw new Fault(3, at - 1);
            }
            if (b >= 0x80) {
                return bits.append(toBits(b - 0x80, 6)).toString();
            }
            bits.append(toBits(b, 7));
        }
    }

    private String sevens(long n) throws Fault {
        StringBuilder bits = new StringBuilder();
        for (long k = 0; k < n; k++) {
            int b = next();
            if (b >= 0x80) {
                throw new Fault(3, at - 1);
            }
            bits.append(toBits(b, 7));
        }
        return bits.toString();
    }

    private static long number(String bits, int most, int first) throws Fault {
        String shown = bits.replaceFirst("^0*", "0");
        if (shown.length() > most + 1) {
            throw new Fault(6, first);
        }
        return Long.parseUnsignedLong(shown, 2);
    }

    private static long unzigzag(long zigzag) {
        return (zigzag & 1) == 0 ? zigzag >>> 1 : -(zigzag >>> 1) - 1;
    }

    private void readBits(int first) throws Fault {
        long n = Long.parseLong(countBits(5), 2);
        long packed = (8 * n + 6) / 7;
        String bits = sevens(packed);
        byte[] bytes = new byte[(int) n];
        if (n > 0) {
            int left = (int) (8 * n - 7 * (packed - 1));
            String last = bits.substring(bits.length() - 7);
            if (last.substring(0, 7 - left).contains("1")) {
                throw new Fault(6, first);
            }
            bits = bits.substring(0, bits.length() - 7) + last.substring(7 - left);
            for (int k = 0; k < n; k++) {
                bytes[k] = (byte) Integer.parseInt(bits.substring(8 * k, 8 * k + 8), 2);
            }
        }
        keep(first, 4, 0, bytes);
    }

    private void readRaw(int first) throws Fault {
        if ((flags & 4) == 0) {
            throw new Fault(3, first);
        }
        keep(first, 4, 0, next(Long.parseLong(countBits(5), 2)));
    }

    private void readValue() throws Fault {
        int first = at;
        readValue(first, next());
    }

    private void readValue(int first, int b) throws Fault {
        byte[] none = new byte[0];
        if (b == 0x20) {
            keep(first, 3, 0, none);
        } else if (b >= 1 && b <= 0x1F) {
            keepTold(first, 3, 0, b - 1);
        } else if (b >= 0x21 && b <= 0x23) {
            keep(first, b - 0x21, 0, none);
        } else if (b == 0x24) {
            keep(first, 7, unzigzag(number(countBits(5), 32, first)), none);
        } else if (b == 0x25) {
            keep(first, 7, unzigzag(number(countBits(10), 64, first)), none);
        } else if (b == 0x28) {
            keep(first, 8, number(sevens(5), 32, first), none);
        } else if (b == 0x29) {
            keep(first, 9, number(sevens(10), 64, first), none);
        } else if (b >= 0x40 && b <= 0x5F) {
            keepText(first, 3, next(b - 0x40 + 1), true);
        } else if (b >= 0x60 && b <= 0x7F) {
            keepText(first, 3, next(b - 0x60 + 33), true);
        } else if (b >= 0x80 && b <= 0x9F) {
            keepText(first, 3, next(b - 0x80 + 2), false);
        } else if (b >= 0xA0 && b <= 0xA0 + 30) {
            keepText(first, 3, next(b - 0xA0 + 34), false);
        } else if (b >= 0xC0 && b <= 0xDF) {
            keep(first, 7, unzigzag(b - 0xC0), none);
        } else if (b == 0xE0 || b == 0xE4) {
            keepText(first, 3, untilStop(), b == 0xE0);
        } else if (b == 0xE8) {
            readBits(first);
        } else if (b >= 0xEC && b <= 0xEF) {
            keepTold(first, 3, b - 0xEC, -1);
        } else if (b == 0xF8) {
            readArray(first);
        } else if (b == 0xFA) {
            readObject(first);
        } else if (b == 0xFD) {
            readRaw(first);
        } else {
            throw new Fault(3, first);
        }
    }

    private void readArray(int first) throws Fault {
        keep(first, 5, 0, new byte[0]);
        while (true) {
            int next = at;
            int b = next();
            if (b == 0xF9) {
                keep(next, 11, 0, new byte[0]);
                return;
            }
            readValue(next, b);
        }
    }

    private void readObject(int first) throws Fault {
        keep(first, 6, 0, new byte[0]);
        while (true) {
            int next = at;
            int b = next();
            if (b == 0xFB) {
                keep(next, 11, 0, new byte[0]);
                return;
            }
            readName(next, b);
            readValue();
        }
    }

    private void readName(int first, int b) throws Fault {
        if (b == 0x20) {
            keep(first, 10, 0, new byte[0]);
        } else if (b >= 0x30 && b <= 0x33) {
            keepTold(first, 10, b - 0x30, -1);
        } else if (b == 0x34) {
            keepText(first, 10, untilStop(), false);
        } else if (b >= 0x40 && b <= 0x7F) {
            keepTold(first, 10, 0, b - 0x40);
        } else if (b >= 0x80 && b <= 0xBF) {
            keepText(first, 10, next(b - 0x80 + 1), true);
        } else if (b >= 0xC0 && b <= 0xF7) {
            keepText(first, 10, next(b - 0xC0 + 2), false);
        } else {
            throw new Fault(3, first);
        }
    }
}
