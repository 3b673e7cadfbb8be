import java.util.Arrays;

/** Makes documents of values, writes them in a published binary form, and reads them again. */
public final class GrinCoder {
    public static final int NONE = -1;
    public static final int FULL = -2;

    private static final int KIND_NULL = 0;
    private static final int KIND_TEXT = 3;
    private static final int KIND_BYTES = 4;
    private static final int KIND_ARRAY = 5;
    private static final int KIND_OBJECT = 6;
    private static final int KIND_INTEGER = 7;
    private static final int KIND_REAL32 = 8;
    private static final int KIND_REAL64 = 9;
    private static final int KIND_NAME = 10;
    private static final int KIND_END = 11;

    private static final int MOST_ITEMS = 1500;
    private static final int MOST_TEXT_BYTES = 5000;
    private static final int MOST_DEPTH = 30;
    private static final int MOST_TYPED = 1000;
    private static final int MOST_CODED = 6000;
    private static final int MOST_IN_TABLE = 1024;
    private static final int LONGEST_IN_TABLE = 64;
    private static final int LONGEST_SHORT = 64;

    private static final int FLAG_NAMES = 1;
    private static final int FLAG_TEXTS = 2;
    private static final int FLAG_RAW = 4;
    private static final int ALL_FLAGS = 7;

    private static final int HEAD_1 = 0x3A;
    private static final int HEAD_2 = 0x29;
    private static final int HEAD_3 = 0x0A;
    private static final int HEAD_LENGTH = 4;

    private static final int SIGN_TEXT_NEAR = 0x01;
    private static final int SIGN_EMPTY = 0x20;
    private static final int SIGN_NULL = 0x21;
    private static final int SIGN_TRUE = 0x23;
    private static final int SIGN_INT32 = 0x24;
    private static final int SIGN_INT64 = 0x25;
    private static final int SIGN_REAL32 = 0x28;
    private static final int SIGN_REAL64 = 0x29;
    private static final int SIGN_SHORT_ASCII = 0x40;
    private static final int SIGN_SHORT_TEXT = 0x80;
    private static final int SIGN_SHORT_TEXT_LAST = 0xBE;
    private static final int SIGN_SMALL = 0xC0;
    private static final int SIGN_SMALL_LAST = 0xDF;
    private static final int SIGN_LONG_ASCII = 0xE0;
    private static final int SIGN_LONG_TEXT = 0xE4;
    private static final int SIGN_BITS = 0xE8;
    private static final int SIGN_TEXT_PLACE = 0xEC;
    private static final int SIGN_TEXT_PLACE_LAST = 0xEF;
    private static final int SIGN_ARRAY = 0xF8;
    private static final int SIGN_ARRAY_END = 0xF9;
    private static final int SIGN_OBJECT = 0xFA;
    private static final int SIGN_OBJECT_END = 0xFB;
    private static final int SIGN_STOP = 0xFC;
    private static final int SIGN_RAW = 0xFD;

    private static final int NAME_PLACE = 0x30;
    private static final int NAME_LONG = 0x34;
    private static final int NAME_NEAR = 0x40;
    private static final int NAME_ASCII = 0x80;
    private static final int NAME_TEXT = 0xC0;
    private static final int NAME_TEXT_LAST = 0xF7;
    private static final int LONGEST_NAME_TEXT = 57;

    private static final int NEAR_TEXTS = 31;
    private static final int NEAR_NAMES = 64;

    private static final int FAULT_HEAD = 1;
    private static final int FAULT_SHORT = 2;
    private static final int FAULT_BYTE = 3;
    private static final int FAULT_TEXT = 4;
    private static final int FAULT_PLACE = 5;
    private static final int FAULT_BITS = 6;
    private static final int FAULT_ROOM = 7;
    private static final int FAULT_BEHIND = 8;

    private final Row typed;
    private final Row loaded;
    private final Writer writer;
    private final Reader reader;
    // The spares take what may still fail, so that what stands is lost only when it went well.
    private Row output;
    private Row spareOutput;
    private Document document;
    private Document spareDocument;

    public GrinCoder() {
        typed = new Row(MOST_TYPED);
        loaded = new Row(MOST_CODED);
        output = new Row(MOST_CODED);
        spareOutput = new Row(MOST_CODED);
        document = new Document();
        spareDocument = new Document();
        Table names = new Table();
        Table texts = new Table();
        writer = new Writer(names, texts);
        reader = new Reader(names, texts);
    }

    public int type(long bytes, int n) {
        return typed.pushLowest(bytes, n);
    }

    public int value(int kind) {
        if (kind < KIND_NULL || kind > KIND_OBJECT) {
            return NONE;
        }
        return kind == KIND_TEXT || kind == KIND_BYTES ? addTyped(kind) : addPlain(kind, 0);
    }

    public int integer(long v) {
        return addPlain(KIND_INTEGER, v);
    }

    public int real(long bits, int wide) {
        if (wide == 1) {
            return addPlain(KIND_REAL64, bits);
        }
        return wide == 0 && bits >>> 32 == 0 ? addPlain(KIND_REAL32, bits) : NONE;
    }

    public int name() {
        return addTyped(KIND_NAME);
    }

    public int end() {
        return addPlain(KIND_END, 0);
    }

    public int drop() {
        int had = document.size();
        document.clear();
        return had;
    }

    public int write(int flags) {
        if (flags < 0 || flags > ALL_FLAGS || !document.isWhole()) {
            return NONE;
        }
        if (!writer.encode(document, flags, spareOutput)) {
            return FULL;
        }
        Row before = output;
        output = spareOutput;
        spareOutput = before;
        return output.size();
    }

    public int written(int k) {
        return output.at(k);
    }

    public int load(long bytes, int n) {
        return loaded.pushLowest(bytes, n);
    }

    public int loop() {
        loaded.copyFrom(output);
        return loaded.size();
    }

    public int read() {
        int fault = reader.decode(loaded, spareDocument);
        loaded.clear();
        if (fault == 0) {
            Document before = document;
            document = spareDocument;
            spareDocument = before;
        }
        return fault;
    }

    public int place() {
        return reader.faultPlace();
    }

    public int item(int i, int what) {
        switch (what) {
            case 0: return document.kindOf(i);
            case 1: return document.lengthOf(i);
            case 2: return document.depthOf(i);
            default: return NONE;
        }
    }

    public long number(int i) {
        return document.numberOf(i);
    }

    public int byteOf(int i, int k) {
        return document.textByte(i, k);
    }

    public int count(int what) {
        switch (what) {
            case 0: return document.size();
            case 1: return document.isWhole() ? 1 : 0;
            case 2: return document.textBytes();
            case 3: return typed.size();
            case 4: return loaded.size();
            case 5: return output.size();
            default: return NONE;
        }
    }

    public int check() {
        return document.isSound() ? 1 : 0;
    }

    private int addPlain(int kind, long number) {
        if (!document.accepts(kind) || !document.hasRoom(kind, 0)) {
            return NONE;
        }
        document.put(kind, number);
        return document.size();
    }

    private int addTyped(int kind) {
        if (!document.accepts(kind) || !document.hasRoom(kind, typed.size())) {
            return NONE;
        }
        if (kind != KIND_BYTES && !Utf8.isText(typed, 0, typed.size())) {
            return NONE;
        }
        document.put(kind, 0);
        document.extendBy(typed, 0, typed.size());
        typed.clear();
        return document.size();
    }

    /** Bytes behind each other, up to a number that is known from the start. */
    private static final class Row {
        private final byte[] cells;
        private int size;
        private boolean tooLong;

        Row(int most) {
            cells = new byte[most];
        }

        int size() {
            return size;
        }

        boolean isTooLong() {
            return tooLong;
        }

        int at(int k) {
            return k >= 0 && k < size ? cells[k] & 0xFF : NONE;
        }

        void clear() {
            size = 0;
            tooLong = false;
        }

        void push(int b) {
            if (size < cells.length) {
                cells[size] = (byte) b;
                size++;
            } else {
                tooLong = true;
            }
        }

        int pushLowest(long bytes, int n) {
            if (n < 1 || n > 8 || n > cells.length - size) {
                return NONE;
            }
            for (int k = n - 1; k >= 0; k--) {
                push((int) (bytes >>> (8 * k)));
            }
            return size;
        }

        void copyFrom(Row other) {
            clear();
            for (int k = 0; k < other.size; k++) {
                push(other.at(k));
            }
        }
    }

    /** What bytes are texts. */
    private static final class Utf8 {
        private Utf8() {
        }

        static boolean isAscii(Row row, int from, int length) {
            for (int k = from; k < from + length; k++) {
                int b = row.at(k);
                if (b < 0 || b >= 0x80) {
                    return false;
                }
            }
            return true;
        }

        static boolean isText(Row row, int from, int length) {
            int end = from + length;
            int k = from;
            while (k < end) {
                int wide = widthAt(row, k);
                if (wide == 0 || wide > end - k) {
                    return false;
                }
                k += wide;
            }
            return true;
        }

        /** How many bytes the character has that begins at k; 0 when none does. */
        private static int widthAt(Row row, int k) {
            int first = row.at(k);
            if (first < 0) {
                return 0;
            }
            if (first < 0x80) {
                return 1;
            }
            // C0, C1 would tell longer than needed; F5 and more are beyond 10FFFF.
            if (first < 0xC2 || first > 0xF4 || !isSecond(first, row.at(k + 1))) {
                return 0;
            }
            int wide = first < 0xE0 ? 2 : first < 0xF0 ? 3 : 4;
            for (int j = 2; j < wide; j++) {
                if (!isBetween(row.at(k + j), 0x80, 0xBF)) {
                    return 0;
                }
            }
            return wide;
        }

        /** The second byte alone tells what is too long, a surrogate, or beyond 10FFFF. */
        private static boolean isSecond(int first, int second) {
            switch (first) {
                case 0xE0: return isBetween(second, 0xA0, 0xBF);
                case 0xED: return isBetween(second, 0x80, 0x9F);
                case 0xF0: return isBetween(second, 0x90, 0xBF);
                case 0xF4: return isBetween(second, 0x80, 0x8F);
                default: return isBetween(second, 0x80, 0xBF);
            }
        }

        private static boolean isBetween(int b, int least, int most) {
            return b >= least && b <= most;
        }
    }

    /** One value as its items in order; what is open in it may still grow. */
    private static final class Document {
        private final int[] kinds = new int[MOST_ITEMS];
        private final int[] starts = new int[MOST_ITEMS];
        private final int[] lengths = new int[MOST_ITEMS];
        private final int[] depths = new int[MOST_ITEMS];
        private final long[] numbers = new long[MOST_ITEMS];
        private final Row bytes = new Row(MOST_TEXT_BYTES);
        private final int[] openKinds = new int[MOST_DEPTH];
        private int size;
        private int depth;
        private boolean named;

        int size() {
            return size;
        }

        int textBytes() {
            return bytes.size();
        }

        void clear() {
            size = 0;
            depth = 0;
            named = false;
            bytes.clear();
        }

        boolean isWhole() {
            return size > 0 && depth == 0;
        }

        /** The kind of the innermost that is open; NONE when nothing is. */
        int innermost() {
            return depth > 0 && depth <= MOST_DEPTH ? openKinds[depth - 1] : NONE;
        }

        boolean accepts(int kind) {
            boolean nameMustCome = innermost() == KIND_OBJECT && !named;
            if (kind == KIND_NAME) {
                return nameMustCome;
            }
            if (kind == KIND_END) {
                return depth > 0 && !named;
            }
            return !isWhole() && !nameMustCome;
        }

        boolean hasRoom(int kind, int length) {
            if (size >= MOST_ITEMS || length > MOST_TEXT_BYTES - bytes.size()) {
                return false;
            }
            return !isContainer(kind) || depth < MOST_DEPTH;
        }

        /** Puts an item without bytes behind all; it must be accepted and have room. */
        void put(int kind, long number) {
            if (size >= MOST_ITEMS) {
                return;
            }
            if (kind == KIND_END && depth > 0) {
                depth--;
            }
            kinds[size] = kind;
            starts[size] = bytes.size();
            lengths[size] = 0;
            depths[size] = depth;
            numbers[size] = number;
            size++;
            named = kind == KIND_NAME;
            if (isContainer(kind) && depth < MOST_DEPTH) {
                openKinds[depth] = kind;
                depth++;
            }
        }

        /** One byte more in the last item. */
        void extend(int b) {
            if (size > 0) {
                bytes.push(b);
                lengths[size - 1] = bytes.size() - starts[size - 1];
            }
        }

        void extendBy(Row from, int start, int length) {
            for (int k = start; k < start + length; k++) {
                extend(from.at(k));
            }
        }

        void extendByTextOf(int i) {
            if (has(i)) {
                extendBy(bytes, starts[i], lengths[i]);
            }
        }

        int kindOf(int i) {
            return has(i) ? kinds[i] : NONE;
        }

        int lengthOf(int i) {
            return has(i) ? lengths[i] : NONE;
        }

        int depthOf(int i) {
            return has(i) ? depths[i] : NONE;
        }

        long numberOf(int i) {
            return has(i) ? numbers[i] : 0;
        }

        int textByte(int i, int k) {
            return has(i) && k >= 0 && k < lengths[i] ? bytes.at(starts[i] + k) : NONE;
        }

        void copyText(int i, Row target) {
            if (has(i)) {
                for (int k = 0; k < lengths[i]; k++) {
                    target.push(bytes.at(starts[i] + k));
                }
            }
        }

        boolean isAscii(int i) {
            return has(i) && Utf8.isAscii(bytes, starts[i], lengths[i]);
        }

        /** A number that equal texts share, and others seldom do. */
        int mixOf(int i) {
            int mixed = 0;
            if (has(i)) {
                for (int k = 0; k < lengths[i]; k++) {
                    mixed = mixed * 31 + bytes.at(starts[i] + k) + 1;
                }
            }
            return mixed;
        }

        boolean haveSameText(int one, int other) {
            if (!has(one) || !has(other) || lengths[one] != lengths[other]) {
                return false;
            }
            for (int k = 0; k < lengths[one]; k++) {
                if (bytes.at(starts[one] + k) != bytes.at(starts[other] + k)) {
                    return false;
                }
            }
            return true;
        }

        boolean isSound() {
            int values = 0;
            for (int i = 0; i < size; i++) {
                if (depthOf(i) == 0 && kindOf(i) != KIND_END) {
                    values++;
                }
            }
            return values <= 1 && depth <= size;
        }

        private boolean has(int i) {
            return i >= 0 && i < size && i < MOST_ITEMS;
        }

        private static boolean isContainer(int kind) {
            return kind == KIND_ARRAY || kind == KIND_OBJECT;
        }
    }

    /** Texts of a document by their places, in the order in which they came. */
    private static final class Table {
        private static final int BUCKETS = 256;
        // Items whose texts share a bucket are chained, so that a search looks at few of them.
        private final int[] items = new int[MOST_IN_TABLE];
        private final int[] chain = new int[MOST_IN_TABLE];
        private final int[] heads = new int[BUCKETS];
        private int size;

        void clear() {
            size = 0;
            Arrays.fill(heads, NONE);
        }

        static boolean canBeTold(int place) {
            return (place & 0xFF) < 0xFE;
        }

        /** Whether a text of so many bytes comes into a table at all. */
        static boolean takes(int length) {
            return length >= 1 && length <= LONGEST_IN_TABLE;
        }

        int itemAt(int place) {
            return place >= 0 && place < size && canBeTold(place) ? items[place] : NONE;
        }

        void put(Document document, int item) {
            if (size >= MOST_IN_TABLE) {
                clear();
            }
            items[size] = item;
            // Left out of the chains, a place that can't be told is never found.
            if (canBeTold(size)) {
                int bucket = bucketOf(document.mixOf(item));
                chain[size] = heads[bucket];
                heads[bucket] = size;
            }
            size++;
        }

        /** Where an equal text can be told; of what is written, there is one such place at most. */
        int placeOf(Document document, int item) {
            int place = heads[bucketOf(document.mixOf(item))];
            for (int step = 0; step < size && place >= 0 && place < size; step++) {
                if (document.haveSameText(items[place], item)) {
                    return place;
                }
                place = chain[place];
            }
            return NONE;
        }

        private static int bucketOf(int mixed) {
            return (mixed ^ mixed >>> 8) & (BUCKETS - 1);
        }
    }

    /** Tells a whole document as bytes. */
    private static final class Writer {
        private final Table names;
        private final Table texts;
        // An end is told by what it ends: the kind that was opened last at each depth.
        private final int[] opened = new int[MOST_DEPTH];
        private Document document;
        private Row out;
        private int flags;

        Writer(Table names, Table texts) {
            this.names = names;
            this.texts = texts;
        }

        /** Whether all of the document has room in the row. */
        boolean encode(Document whole, int withFlags, Row row) {
            document = whole;
            flags = withFlags;
            out = row;
            names.clear();
            texts.clear();
            out.clear();
            out.push(HEAD_1);
            out.push(HEAD_2);
            out.push(HEAD_3);
            out.push(flags);
            for (int i = 0; i < document.size() && !out.isTooLong(); i++) {
                encodeItem(i);
            }
            return !out.isTooLong();
        }

        private void encodeItem(int i) {
            switch (document.kindOf(i)) {
                case KIND_TEXT: encodeText(i); break;
                case KIND_BYTES: encodeBytes(i); break;
                case KIND_ARRAY: encodeOpening(i, SIGN_ARRAY); break;
                case KIND_OBJECT: encodeOpening(i, SIGN_OBJECT); break;
                case KIND_INTEGER: encodeInteger(document.numberOf(i)); break;
                case KIND_REAL32: encodeReal(SIGN_REAL32, document.numberOf(i), 5); break;
                case KIND_REAL64: encodeReal(SIGN_REAL64, document.numberOf(i), 10); break;
                case KIND_NAME: encodeName(i); break;
                case KIND_END: encodeEnd(i); break;
                default: out.push(SIGN_NULL + document.kindOf(i)); break;
            }
        }

        private void encodeOpening(int i, int sign) {
            int depth = document.depthOf(i);
            if (depth >= 0 && depth < MOST_DEPTH) {
                opened[depth] = document.kindOf(i);
            }
            out.push(sign);
        }

        private void encodeEnd(int i) {
            int depth = document.depthOf(i);
            boolean ofObject = depth >= 0 && depth < MOST_DEPTH && opened[depth] == KIND_OBJECT;
            out.push(ofObject ? SIGN_OBJECT_END : SIGN_ARRAY_END);
        }

        private void encodeInteger(long v) {
            long zigzag = v << 1 ^ v >> 63;
            if (v >= -16 && v <= 15) {
                out.push(SIGN_SMALL + (int) zigzag);
                return;
            }
            out.push(v == (int) v ? SIGN_INT32 : SIGN_INT64);
            encodeCount(zigzag);
        }

        /** A count may have all 64 bits: it is shifted without its sign. */
        private void encodeCount(long count) {
            int before = 0;
            for (long rest = count >>> 6; rest != 0 && before < 9; rest >>>= 7) {
                before++;
            }
            for (int k = before - 1; k >= 0; k--) {
                out.push((int) (count >>> (6 + 7 * k)) & 0x7F);
            }
            out.push(0x80 | (int) count & 0x3F);
        }

        private void encodeReal(int sign, long bits, int length) {
            out.push(sign);
            for (int k = length - 1; k >= 0; k--) {
                out.push((int) (bits >>> (7 * k)) & 0x7F);
            }
        }

        private void encodeText(int i) {
            int length = document.lengthOf(i);
            boolean ascii = document.isAscii(i);
            boolean shared = (flags & FLAG_TEXTS) != 0 && Table.takes(length);
            int place = shared ? texts.placeOf(document, i) : NONE;
            if (shared && place == NONE) {
                texts.put(document, i);
            }
            if (place != NONE) {
                encodePlace(place, NEAR_TEXTS, SIGN_TEXT_NEAR, SIGN_TEXT_PLACE);
            } else if (length == 0) {
                out.push(SIGN_EMPTY);
            } else if (length > LONGEST_SHORT) {
                encodeLong(i, ascii ? SIGN_LONG_ASCII : SIGN_LONG_TEXT);
            } else {
                encodeShort(i, ascii ? SIGN_SHORT_ASCII + length - 1 : SIGN_SHORT_TEXT + length - 2);
            }
        }

        private void encodeName(int i) {
            int length = document.lengthOf(i);
            boolean ascii = document.isAscii(i);
            boolean shared = (flags & FLAG_NAMES) != 0 && Table.takes(length);
            int place = shared ? names.placeOf(document, i) : NONE;
            if (shared && place == NONE) {
                names.put(document, i);
            }
            if (place != NONE) {
                encodePlace(place, NEAR_NAMES, NAME_NEAR, NAME_PLACE);
            } else if (length == 0) {
                out.push(SIGN_EMPTY);
            } else if (length > (ascii ? LONGEST_SHORT : LONGEST_NAME_TEXT)) {
                encodeLong(i, NAME_LONG);
            } else {
                encodeShort(i, ascii ? NAME_ASCII + length - 1 : NAME_TEXT + length - 2);
            }
        }

        private void encodePlace(int place, int near, int nearSign, int farSign) {
            if (place < near) {
                out.push(nearSign + place);
            } else {
                out.push(farSign + place / 256);
                out.push(place);
            }
        }

        private void encodeShort(int i, int sign) {
            out.push(sign);
            document.copyText(i, out);
        }

        private void encodeLong(int i, int sign) {
            out.push(sign);
            document.copyText(i, out);
            out.push(SIGN_STOP);
        }

        private void encodeBytes(int i) {
            boolean raw = (flags & FLAG_RAW) != 0;
            out.push(raw ? SIGN_RAW : SIGN_BITS);
            encodeCount(document.lengthOf(i));
            if (raw) {
                document.copyText(i, out);
            } else {
                pushBitsOf(i);
            }
        }

        private void pushBitsOf(int i) {
            int held = 0;
            int heldBits = 0;
            for (int k = 0; k < document.lengthOf(i); k++) {
                held = held << 8 | document.textByte(i, k);
                heldBits += 8;
                while (heldBits >= 7) {
                    heldBits -= 7;
                    out.push(held >>> heldBits & 0x7F);
                }
                held &= (1 << heldBits) - 1;
            }
            if (heldBits > 0) {
                out.push(held);
            }
        }
    }

    /** Makes a document of what bytes tell, up to the first fault. */
    private static final class Reader {
        // How the bytes of an item's text or bytes are told.
        private static final int FORM_NONE = 0;
        private static final int FORM_ASCII = 1;
        private static final int FORM_TEXT = 2;
        private static final int FORM_TOLD = 3;
        private static final int FORM_RAW = 4;
        private static final int FORM_BITS = 5;

        private final Table names;
        private final Table texts;
        private Row in;
        private Document document;
        private int flags;
        private int at;
        private int fault;
        private int faultAt = NONE;

        // The item that is read now: where it begins, and what its bytes tell.
        private int first;
        private int kind;
        private long number;
        private int form;
        private int start;
        private int length;
        private int told;
        private boolean over;

        Reader(Table names, Table texts) {
            this.names = names;
            this.texts = texts;
        }

        int faultPlace() {
            return faultAt;
        }

        /** The fault; 0 when there is none, and the document is then whole. */
        int decode(Row row, Document target) {
            in = row;
            document = target;
            document.clear();
            names.clear();
            texts.clear();
            fault = 0;
            faultAt = NONE;
            scanHead();
            // One item more than there may be is tried, for it tells the fault.
            for (int k = 0; k <= MOST_ITEMS && fault == 0 && !document.isWhole(); k++) {
                int sign = beginItem();
                if (document.accepts(KIND_NAME)) {
                    scanName(sign);
                } else {
                    scanValue(sign);
                }
                judgeItem();
                keepItem();
            }
            if (at < in.size()) {
                fail(FAULT_BEHIND, at);
            }
            return fault;
        }

        /** Only the first fault that is met counts. */
        private void fail(int code, int where) {
            if (fault == 0) {
                fault = code;
                faultAt = where;
            }
        }

        private void scanHead() {
            for (int k = 0; k < HEAD_LENGTH; k++) {
                if (!isHeadByte(k, in.at(k))) {
                    fail(FAULT_HEAD, k);
                }
            }
            flags = in.at(HEAD_LENGTH - 1);
            at = HEAD_LENGTH;
        }

        private static boolean isHeadByte(int k, int b) {
            switch (k) {
                case 0: return b == HEAD_1;
                case 1: return b == HEAD_2;
                case 2: return b == HEAD_3;
                default: return b >= 0 && b <= ALL_FLAGS;
            }
        }

        /** Forgets the item before; the first byte of the new one. */
        private int beginItem() {
            first = at;
            number = 0;
            form = FORM_NONE;
            length = 0;
            told = NONE;
            over = false;
            return take();
        }

        // The scans go over all bytes of an item, and meet no faults but those of single bytes.

        private void scanName(int sign) {
            kind = KIND_NAME;
            if (sign == SIGN_OBJECT_END) {
                kind = KIND_END;
            } else if (sign == SIGN_EMPTY) {
                scanShort(0, FORM_TEXT);
            } else if (sign >= NAME_PLACE && sign < NAME_LONG) {
                scanFarPlace(sign - NAME_PLACE);
            } else if (sign == NAME_LONG) {
                scanLong(FORM_TEXT);
            } else if (sign >= NAME_NEAR && sign < NAME_ASCII) {
                scanNearPlace(sign - NAME_NEAR);
            } else if (sign >= NAME_ASCII && sign < NAME_TEXT) {
                scanShort(sign - NAME_ASCII + 1, FORM_ASCII);
            } else if (sign >= NAME_TEXT && sign <= NAME_TEXT_LAST) {
                scanShort(sign - NAME_TEXT + 2, FORM_TEXT);
            } else {
                refuseByte();
            }
        }

        private void scanValue(int sign) {
            switch (sign) {
                case SIGN_INT32: scanInteger(5, 32); break;
                case SIGN_INT64: scanInteger(10, 64); break;
                case SIGN_REAL32: scanReal(KIND_REAL32, 5, 32); break;
                case SIGN_REAL64: scanReal(KIND_REAL64, 10, 64); break;
                case SIGN_BITS: scanBits(); break;
                case SIGN_RAW: scanRaw(); break;
                case SIGN_ARRAY: kind = KIND_ARRAY; break;
                case SIGN_OBJECT: kind = KIND_OBJECT; break;
                case SIGN_ARRAY_END: scanArrayEnd(); break;
                default: scanBrief(sign); break;
            }
        }

        /** The texts, and what one byte tells whole. */
        private void scanBrief(int sign) {
            kind = KIND_TEXT;
            if (sign >= SIGN_TEXT_NEAR && sign < SIGN_EMPTY) {
                scanNearPlace(sign - SIGN_TEXT_NEAR);
            } else if (sign == SIGN_EMPTY) {
                scanShort(0, FORM_TEXT);
            } else if (sign >= SIGN_NULL && sign <= SIGN_TRUE) {
                kind = KIND_NULL + sign - SIGN_NULL;
            } else if (sign >= SIGN_SHORT_ASCII && sign < SIGN_SHORT_TEXT) {
                scanShort(sign - SIGN_SHORT_ASCII + 1, FORM_ASCII);
            } else if (sign >= SIGN_SHORT_TEXT && sign <= SIGN_SHORT_TEXT_LAST) {
                scanShort(sign - SIGN_SHORT_TEXT + 2, FORM_TEXT);
            } else if (sign >= SIGN_SMALL && sign <= SIGN_SMALL_LAST) {
                kind = KIND_INTEGER;
                number = fromZigzag(sign - SIGN_SMALL);
            } else if (sign == SIGN_LONG_ASCII) {
                scanLong(FORM_ASCII);
            } else if (sign == SIGN_LONG_TEXT) {
                scanLong(FORM_TEXT);
            } else if (sign >= SIGN_TEXT_PLACE && sign <= SIGN_TEXT_PLACE_LAST) {
                scanFarPlace(sign - SIGN_TEXT_PLACE);
            } else {
                refuseByte();
            }
        }

        private void scanArrayEnd() {
            kind = KIND_END;
            if (document.innermost() != KIND_ARRAY) {
                refuseByte();
            }
        }

        private void scanInteger(int mostBytes, int mostBits) {
            kind = KIND_INTEGER;
            number = fromZigzag(takeCount(mostBytes, mostBits));
        }

        private static long fromZigzag(long zigzag) {
            return zigzag >>> 1 ^ -(zigzag & 1);
        }

        private void scanReal(int width, int bytes, int mostBits) {
            kind = width;
            for (int k = 0; k < bytes && fault == 0; k++) {
                number = append(number, takeSeven(), 7, mostBits);
            }
        }

        private void scanShort(int bytes, int how) {
            form = how;
            start = at;
            skip(bytes);
        }

        private void scanLong(int how) {
            form = how;
            start = at;
            while (at < in.size() && in.at(at) != SIGN_STOP) {
                at++;
            }
            length = at - start;
            // What stopped there may also be the end of all bytes.
            take();
        }

        private void scanNearPlace(int place) {
            form = FORM_TOLD;
            if (isShared()) {
                told = place;
            } else {
                refuseByte();
            }
        }

        private void scanFarPlace(int high) {
            form = FORM_TOLD;
            if (isShared()) {
                told = high * 256 + take();
            } else {
                refuseByte();
            }
        }

        private void scanRaw() {
            kind = KIND_BYTES;
            form = FORM_RAW;
            if ((flags & FLAG_RAW) == 0) {
                refuseByte();
                return;
            }
            long count = takeCount(5, 32);
            start = at;
            skip(count);
        }

        private void scanBits() {
            kind = KIND_BYTES;
            form = FORM_BITS;
            long count = takeCount(5, 32);
            start = at;
            int last = 0;
            // However great the count is: one byte more than there are meets the fault.
            long sevens = Math.min(sevensOf(count), in.size() + 1L);
            for (long k = 0; k < sevens && fault == 0; k++) {
                last = takeSeven();
            }
            if (fault == 0) {
                length = (int) count;
                over = over || last >>> bitsInLast(length) != 0;
            }
        }

        /** How many bytes of seven bits so many bytes fill. */
        private static long sevensOf(long bytes) {
            return (8 * bytes + 6) / 7;
        }

        private static int bitsInLast(int bytes) {
            return (int) (8 * bytes - 7 * (sevensOf(bytes) - 1));
        }

        /** The next byte, which is then behind us; NONE, and the fault, when there is none. */
        private int take() {
            int b = in.at(at);
            if (b == NONE) {
                fail(FAULT_SHORT, at);
            } else {
                at++;
            }
            return b;
        }

        private int takeSeven() {
            int b = take();
            if (b >= 0x80) {
                refuseByte();
            }
            return b & 0x7F;
        }

        private long takeCount(int mostBytes, int mostBits) {
            long count = 0;
            for (int k = 1; k <= mostBytes; k++) {
                int b = take();
                if (b >= 0x80 && b < 0xC0) {
                    return append(count, b & 0x3F, 6, mostBits);
                }
                if (b >= 0xC0 || b >= 0 && k == mostBytes) {
                    refuseByte();
                }
                if (fault != 0) {
                    return 0;
                }
                count = append(count, b, 7, mostBits);
            }
            return 0;
        }

        /** Whether there are too many bits is only kept: it counts when all of the item is there. */
        private long append(long before, int bits, int width, int mostBits) {
            over = over || before >>> (mostBits - width) != 0;
            return before << width | bits;
        }

        /** Goes over bytes of which any may stand there. */
        private void skip(long bytes) {
            if (bytes > in.size() - at) {
                fail(FAULT_SHORT, in.size());
            } else {
                length = (int) bytes;
                at += length;
            }
        }

        /** The byte that was taken last can't stand there. */
        private void refuseByte() {
            fail(FAULT_BYTE, at - 1);
        }

        private boolean isShared() {
            return (flags & (kind == KIND_NAME ? FLAG_NAMES : FLAG_TEXTS)) != 0;
        }

        private Table table() {
            return kind == KIND_NAME ? names : texts;
        }

        /** Meets the faults of an item whose bytes are all there. */
        private void judgeItem() {
            if (fault != 0) {
                return;
            }
            if (form == FORM_ASCII && !Utf8.isAscii(in, start, length)
                    || form == FORM_TEXT && !Utf8.isText(in, start, length)) {
                fail(FAULT_TEXT, first);
            }
            if (form == FORM_TOLD) {
                told = table().itemAt(told);
                length = document.lengthOf(told);
                if (told == NONE) {
                    fail(FAULT_PLACE, first);
                }
            }
            if (over) {
                fail(FAULT_BITS, first);
            }
            if (!document.hasRoom(kind, length)) {
                fail(FAULT_ROOM, first);
            }
        }

        private void keepItem() {
            if (fault != 0) {
                return;
            }
            document.put(kind, number);
            switch (form) {
                case FORM_ASCII: keepText(); break;
                case FORM_TEXT: keepText(); break;
                case FORM_TOLD: document.extendByTextOf(told); break;
                case FORM_RAW: document.extendBy(in, start, length); break;
                case FORM_BITS: keepBits(); break;
                default: break;
            }
        }

        private void keepText() {
            document.extendBy(in, start, length);
            if (isShared() && Table.takes(length)) {
                table().put(document, document.size() - 1);
            }
        }

        private void keepBits() {
            int held = 0;
            int heldBits = 0;
            for (int k = start; k < at; k++) {
                int width = k == at - 1 ? bitsInLast(length) : 7;
                held = held << width | in.at(k);
                heldBits += width;
                if (heldBits >= 8) {
                    heldBits -= 8;
                    document.extend(held >>> heldBits & 0xFF);
                }
                held &= (1 << heldBits) - 1;
            }
        }
    }
}
