import java.util.ArrayList;
import java.util.List;
import java.util.Random;
import java.util.function.ToLongFunction;

/**
 * The calls on one object. Those that change it are kept, so that another object can be brought to where
 * it stands: whatever a test looks at, no object is asked more than the 512 calls that are promised.
 */
final class Run {
    static final int MOST_CALLS = 512;
    private static final int NONE = GrinCoder.NONE;

    private final List<ToLongFunction<GrinCoder>> changes = new ArrayList<>();
    private GrinCoder coder = new GrinCoder();
    private int calls = 0;

    /** Another object, on which the same was done. */
    Run copy() {
        Run other = new Run();
        for (ToLongFunction<GrinCoder> call : changes) {
            other.change(call);
        }
        return other;
    }

    private long change(ToLongFunction<GrinCoder> call) {
        long answer = ask(call);
        changes.add(call);
        return answer;
    }

    private long ask(ToLongFunction<GrinCoder> call) {
        if (calls == MOST_CALLS) {
            renew();
        }
        calls++;
        return call.applyAsLong(coder);
    }

    private void renew() {
        if (changes.size() >= MOST_CALLS) {
            throw new IllegalStateException("this test needs more calls than are promised");
        }
        coder = new GrinCoder();
        for (ToLongFunction<GrinCoder> call : changes) {
            call.applyAsLong(coder);
        }
        calls = changes.size();
    }

    // The calls of the document.

    int type(long bytes, int n) {
        return (int) change(x -> x.type(bytes, n));
    }

    int value(int kind) {
        return (int) change(x -> x.value(kind));
    }

    int integer(long v) {
        return (int) change(x -> x.integer(v));
    }

    int real(long bits, int wide) {
        return (int) change(x -> x.real(bits, wide));
    }

    int name() {
        return (int) change(GrinCoder::name);
    }

    int end() {
        return (int) change(GrinCoder::end);
    }

    int drop() {
        return (int) change(GrinCoder::drop);
    }

    int write(int flags) {
        return (int) change(x -> x.write(flags));
    }

    int load(long bytes, int n) {
        return (int) change(x -> x.load(bytes, n));
    }

    int loop() {
        return (int) change(GrinCoder::loop);
    }

    int read() {
        return (int) change(GrinCoder::read);
    }

    int written(int k) {
        return (int) ask(x -> x.written(k));
    }

    int place() {
        return (int) ask(GrinCoder::place);
    }

    int item(int i, int what) {
        return (int) ask(x -> x.item(i, what));
    }

    long number(int i) {
        return ask(x -> x.number(i));
    }

    int byteOf(int i, int k) {
        return (int) ask(x -> x.byteOf(i, k));
    }

    int count(int what) {
        return (int) ask(x -> x.count(what));
    }

    int check() {
        return (int) ask(GrinCoder::check);
    }

    // Several calls in one, with bytes as hex.

    /** The n bytes from start as a number, the first of them highest; noise above them. */
    private static long packed(byte[] row, int start, int n) {
        long number = n == 8 ? 0 : new Random(start).nextLong();
        for (int k = 0; k < n; k++) {
            number = number << 8 | row[start + k] & 0xFF;
        }
        return number;
    }

    /** Types bytes; what the last call answered. */
    int types(String hex) {
        byte[] row = Probe.bytes(hex);
        int answer = 0;
        for (int k = 0; k < row.length; k += 8) {
            int n = Math.min(8, row.length - k);
            answer = type(packed(row, k, n), n);
        }
        return answer;
    }

    /** Loads bytes; what the last call answered. */
    int loads(String hex) {
        byte[] row = Probe.bytes(hex);
        int answer = 0;
        for (int k = 0; k < row.length; k += 8) {
            int n = Math.min(8, row.length - k);
            answer = load(packed(row, k, n), n);
        }
        return answer;
    }

    int text(String hex) {
        types(hex);
        return value(3);
    }

    int bytes(String hex) {
        types(hex);
        return value(4);
    }

    int name(String hex) {
        types(hex);
        return name();
    }

    /** Reads what stands behind a head that is right. */
    int reads(int flags, String hex) {
        loads(Probe.head(flags) + hex);
        return read();
    }

    /** An object whose document is what these bytes tell. */
    static Run of(int flags, String hex) {
        Run x = new Run();
        Probe.due("read() of " + Probe.brief(hex), x.reads(flags, hex), 0);
        return x;
    }

    // All there is to see, as texts.

    /** All items: each with its depth, then n f t, s b k with bytes, i r R with numbers, [ { and ]. */
    String items() {
        StringBuilder all = new StringBuilder();
        for (int i = 0; item(i, 0) != NONE; i++) {
            int kind = item(i, 0);
            all.append(i == 0 ? "" : " ").append(item(i, 2)).append("nftsb[{irRk]".charAt(kind));
            if (kind == 3 || kind == 4 || kind == 10) {
                all.append(bytesOf(i));
            } else if (kind >= 7 && kind <= 9) {
                all.append(number(i));
            }
        }
        return all.toString();
    }

    String bytesOf(int i) {
        StringBuilder all = new StringBuilder();
        int n = 0;
        for (; byteOf(i, n) != NONE; n++) {
            all.append(Probe.hex(byteOf(i, n)));
        }
        Probe.due("item(" + i + ", 1)", item(i, 1), n);
        return all.toString();
    }

    /** What was written, from a byte on. */
    String writtenFrom(int from) {
        StringBuilder all = new StringBuilder();
        for (int k = from; written(k) != NONE; k++) {
            all.append(Probe.hex(written(k)));
        }
        return all.toString();
    }

    /** Writes the document: what stands behind the head. */
    String writes(int flags) {
        int n = write(flags);
        String all = writtenFrom(0);
        Probe.due("write(" + flags + ")", n, all.length() / 2);
        Probe.due("head of write(" + flags + ")", all.substring(0, Math.min(8, all.length())), Probe.head(flags));
        return all.substring(Math.min(8, all.length()));
    }

    /** All that can be seen of the object, also of what is typed and loaded. */
    String state() {
        StringBuilder all = new StringBuilder(items());
        for (int what = 0; what <= 5; what++) {
            all.append(" count ").append(count(what));
        }
        all.append(" place ").append(place()).append(" check ").append(check());
        all.append(" written ").append(writtenFrom(0));
        Run typing = copy();
        typing.drop();
        typing.value(4);
        all.append(" typed ").append(typing.items());
        Run reading = copy();
        all.append(" reads ").append(reading.read()).append(" at ").append(reading.place());
        return all.append(" as ").append(reading.items()).toString();
    }
}
