import java.util.Random;

/** What the tests share: bytes as hex, calls in rows, and the answers that were not due. */
final class Probe {
    static final int ARRAY = 5;
    static final int OBJECT = 6;
    static final String HEAD = "3A290A";

    private static int wrong = 0;

    private Probe() {
    }

    static void due(String what, long got, long want) {
        if (got != want) {
            complain(what + " answered " + got + ", due is " + want);
        }
    }

    static void due(String what, String got, String want) {
        if (!got.equals(want)) {
            complain(what + " answered\n  " + got + ", due is\n  " + want);
        }
    }

    private static void complain(String text) {
        wrong++;
        System.out.println(text);
    }

    static void finish() {
        System.out.println(wrong == 0 ? "all answers are as due" : wrong + " answers are not as due");
        if (wrong != 0) {
            System.exit(1);
        }
    }

    static byte[] bytes(String hex) {
        String plain = hex.replace(" ", "");
        byte[] row = new byte[plain.length() / 2];
        for (int k = 0; k < row.length; k++) {
            row[k] = (byte) Integer.parseInt(plain.substring(2 * k, 2 * k + 2), 16);
        }
        return row;
    }

    static String hex(byte[] row) {
        StringBuilder text = new StringBuilder();
        for (byte b : row) {
            text.append(String.format("%02X", b & 0xFF));
        }
        return text.toString();
    }

    static String hex(String hex) {
        return hex.replace(" ", "");
    }

    /** The n bytes from start as a number, the first of them highest; noise above them. */
    private static long packed(byte[] row, int start, int n) {
        long number = n == 8 ? 0 : new Random(start).nextLong();
        for (int k = 0; k < n; k++) {
            number = number << 8 | row[start + k] & 0xFF;
        }
        return number;
    }

    static int type(GrinCoder x, String hex) {
        byte[] row = bytes(hex);
        int answer = x.count(3);
        for (int k = 0; k < row.length; k += 8) {
            int n = Math.min(8, row.length - k);
            answer = x.type(packed(row, k, n), n);
        }
        return answer;
    }

    static int load(GrinCoder x, String hex) {
        byte[] row = bytes(hex);
        int answer = x.count(4);
        for (int k = 0; k < row.length; k += 8) {
            int n = Math.min(8, row.length - k);
            answer = x.load(packed(row, k, n), n);
        }
        return answer;
    }

    static int text(GrinCoder x, String hex) {
        type(x, hex);
        return x.value(3);
    }

    static int raw(GrinCoder x, String hex) {
        type(x, hex);
        return x.value(4);
    }

    static int name(GrinCoder x, String hex) {
        type(x, hex);
        return x.name();
    }

    /** Loads bytes behind the head, and reads them. */
    static int read(GrinCoder x, int flags, String hex) {
        load(x, HEAD + String.format("%02X", flags) + hex);
        return x.read();
    }

    static GrinCoder reading(int flags, String hex) {
        GrinCoder x = new GrinCoder();
        due("read() of " + hex, read(x, flags, hex), 0);
        return x;
    }

    /** What was written, without its head. */
    static String written(GrinCoder x, int flags) {
        int n = x.write(flags);
        String all = writtenFrom(x, 0);
        due("write(" + flags + ")", n, all.length() / 2);
        due("the head", all.substring(0, 8), HEAD + String.format("%02X", flags));
        return all.substring(8);
    }

    static String writtenFrom(GrinCoder x, int from) {
        StringBuilder all = new StringBuilder();
        for (int k = from; x.written(k) != GrinCoder.NONE; k++) {
            all.append(String.format("%02X", x.written(k)));
        }
        return all.toString();
    }

    static String times(String hex, int n) {
        return hex.replace(" ", "").repeat(n);
    }

    /** All items: n f t, s: and b: with bytes, i: r: R: with numbers, [ { k: and ] with depths. */
    static String items(GrinCoder x) {
        StringBuilder all = new StringBuilder();
        for (int i = 0; x.item(i, 0) != GrinCoder.NONE; i++) {
            int kind = x.item(i, 0);
            all.append(i == 0 ? "" : " ").append(x.item(i, 2)).append("nftsb[{irRk]".charAt(kind));
            if (kind == 3 || kind == 4 || kind == 10) {
                all.append(bytesOf(x, i));
            } else if (kind >= 7 && kind <= 9) {
                all.append(x.number(i));
            }
        }
        return all.toString();
    }

    static String bytesOf(GrinCoder x, int i) {
        StringBuilder all = new StringBuilder();
        int k = 0;
        for (; x.byteOf(i, k) != GrinCoder.NONE; k++) {
            all.append(String.format("%02X", x.byteOf(i, k)));
        }
        due("item(" + i + ", 1)", x.item(i, 1), k);
        return all.toString();
    }
}
