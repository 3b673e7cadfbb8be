import java.lang.management.ManagementFactory;
import java.lang.reflect.Array;
import java.lang.reflect.Field;
import java.lang.reflect.Modifier;
import java.util.IdentityHashMap;
import java.util.Map;

/** An object is of a size that is known, and its calls make nothing new. */
final class RoomTest {
    private static final int MOST_CELLS = 60_000;
    private static final int MOST_BYTES_MADE = 4_096;

    private RoomTest() {
    }

    public static void main(String[] args) throws IllegalAccessException {
        GrinCoder x = new GrinCoder();
        int cells = cells(x, new IdentityHashMap<>());
        Probe.due("an object of " + cells + " cells is too great", cells > MOST_CELLS ? 1 : 0, 0);
        manyCalls(x);
        Probe.due("cells then", cells(x, new IdentityHashMap<>()), cells);
        com.sun.management.ThreadMXBean threads =
            (com.sun.management.ThreadMXBean) ManagementFactory.getThreadMXBean();
        threads.getCurrentThreadAllocatedBytes();
        long before = threads.getCurrentThreadAllocatedBytes();
        manyCalls(x);
        long made = threads.getCurrentThreadAllocatedBytes() - before;
        Probe.due("calls that made " + made + " bytes", made > MOST_BYTES_MADE ? 1 : 0, 0);
        Probe.finish();
    }

    private static int cells(Object object, Map<Object, Boolean> seen) throws IllegalAccessException {
        if (object == null || seen.put(object, true) != null) {
            return 0;
        }
        if (object.getClass().isArray()) {
            return Array.getLength(object);
        }
        int sum = 0;
        for (Field field : object.getClass().getDeclaredFields()) {
            if (Modifier.isStatic(field.getModifiers())) {
                continue;
            }
            sum++;
            if (!field.getType().isPrimitive()) {
                field.setAccessible(true);
                sum += cells(field.get(object), seen);
            }
        }
        return sum;
    }

    /** Far more than 512 calls, for even a few bytes each would show. */
    private static void manyCalls(GrinCoder x) {
        for (int round = 0; round < 200; round++) {
            x.drop();
            x.value(6);
            for (int k = 0; k < 20; k++) {
                x.type(0x6162636465L + k % 7, 5);
                x.name();
                x.type(0xC3A96162L + k % 5, 4);
                x.value(3 + k % 2);
            }
            x.type(0x61, 1);
            x.name();
            x.value(5);
            x.integer(round * 12345678901L);
            x.real(round, round % 2);
            x.end();
            x.end();
            x.write(round % 8);
            x.loop();
            x.read();
            x.load(round, 8);
            x.read();
            x.place();
            for (int k = 0; k < 20; k++) {
                x.item(k, k % 3);
                x.number(k);
                x.byteOf(k, 0);
                x.written(k);
                x.count(k % 6);
            }
            x.check();
        }
    }
}
