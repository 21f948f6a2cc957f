import java.lang.management.ManagementFactory;
import java.lang.reflect.Array;
import java.lang.reflect.Field;
import java.lang.reflect.Modifier;
import java.util.Collections;
import java.util.IdentityHashMap;
import java.util.Set;

/** What a run makes fits into the room: objects are small, and calls make nothing. */
public final class RoomTest {
    private static final int MOST_CALLS = 512;
    private static final long MOST_OBJECTS = 600_000;
    private static final long MOST_PARTS = 7_300_000;
    /** What the machine itself may make meanwhile, far less than one row a call. */
    private static final long MOST_BYTES = 64 * MOST_CALLS;

    private static long parts = 0;

    private RoomTest() {
    }

    public static void main(String[] args) throws IllegalAccessException {
        Set<Object> seen = Collections.newSetFromMap(new IdentityHashMap<>());
        count(new LimbRegisters(), seen);
        System.out.println("an object: " + seen.size() + " objects and arrays, " + parts + " fields and elements");
        Checks.due("objects of a run of constructors fit", seen.size() * MOST_CALLS < MOST_OBJECTS, true);
        Checks.due("parts of a run of constructors fit", parts * MOST_CALLS < MOST_PARTS, true);
        callRun();
        long before = bytesMade();
        callRun();
        long made = bytesMade() - before - bytesOfObject();
        Checks.due("calls make nothing (" + made + " bytes)", made < MOST_BYTES, true);
        Checks.end();
    }

    private static void count(Object object, Set<Object> seen) throws IllegalAccessException {
        if (object == null || !seen.add(object)) {
            return;
        }
        if (object.getClass().isArray()) {
            parts += Array.getLength(object);
            if (object instanceof Object[] row) {
                for (Object part : row) {
                    count(part, seen);
                }
            }
            return;
        }
        for (Field field : object.getClass().getDeclaredFields()) {
            if (!Modifier.isStatic(field.getModifiers())) {
                parts++;
                field.setAccessible(true);
                if (!field.getType().isPrimitive()) {
                    count(field.get(object), seen);
                }
            }
        }
    }

    private static long bytesOfObject() {
        long before = bytesMade();
        new LimbRegisters().wipe();
        return bytesMade() - before;
    }

    private static long bytesMade() {
        com.sun.management.ThreadMXBean bean =
                (com.sun.management.ThreadMXBean) ManagementFactory.getThreadMXBean();
        return bean.getThreadAllocatedBytes(Thread.currentThread().getId());
    }

    private static void callRun() {
        LimbRegisters x = new LimbRegisters();
        x.set(0, -1);
        x.shift(0, 0, 1023);
        x.copy(1, 0, true);
        x.set(2, 1);
        x.subtract(1, 1, 2);
        for (int i = 0; i < 25; i++) {
            x.print(0, 2);
            x.parse(3, 2);
            x.divide(4, 5, 0, 1, true);
            x.root(6, 1, 2 + i);
            x.gcd(7, 0, 1);
            x.power(8, 0, 6, 1);
            x.inverse(9, 0, 1);
            x.multiply(10, 6, 2);
            x.add(11, 10, 2);
            x.subtract(11, 11, 10);
            x.type(0x3031L, 2);
            x.character(1);
            x.wipe();
            x.compare(0, 1);
            x.bits(0);
            x.bit(0, 1000);
            x.low(0);
        }
    }
}
