import com.sun.management.ThreadMXBean;
import java.lang.management.ManagementFactory;
import java.lang.reflect.Array;
import java.lang.reflect.Field;
import java.lang.reflect.Modifier;
import java.util.IdentityHashMap;
import java.util.Map;

/** The room that calls live in: what an object holds is small, and no call but the constructor makes anything. */
public final class RoomTest {
    /** So that even 512 objects would have room in 7.3 million. */
    private static final long MOST_ELEMENTS = 14250;
    private static final long MOST_OBJECTS = 100;
    /** Far below what 500 calls would make if each made one small array, and above what measuring itself makes. */
    private static final long MOST_BYTES = 16000;
    private static final Check CHECK = new Check();

    public static void main(String[] args) throws IllegalAccessException {
        Map<Object, Boolean> seen = new IdentityHashMap<>();
        long elements = count(new GlobProfile(), seen);
        CHECK.due(elements + " elements are few", elements <= MOST_ELEMENTS, true);
        CHECK.due(seen.size() + " objects are few", seen.size() <= MOST_OBJECTS, true);
        bytesOfCalls(new GlobProfile());
        long bytes = bytesOfCalls(new GlobProfile());
        CHECK.due(bytes + " bytes made by calls are few", bytes <= MOST_BYTES, true);
        CHECK.end();
    }

    private static long count(Object object, Map<Object, Boolean> seen) throws IllegalAccessException {
        if (object == null || seen.put(object, true) != null) {
            return 0;
        }
        long sum = 0;
        if (object.getClass().isArray()) {
            int length = Array.getLength(object);
            for (int i = 0; i < length && object instanceof Object[] row; i++) {
                sum += count(row[i], seen);
            }
            return sum + length;
        }
        for (Field field : object.getClass().getDeclaredFields()) {
            if (!Modifier.isStatic(field.getModifiers())) {
                field.setAccessible(true);
                sum += 1 + (field.getType().isPrimitive() ? 0 : count(field.get(object), seen));
            }
        }
        return sum;
    }

    private static long bytesOfCalls(GlobProfile x) {
        ThreadMXBean thread = (ThreadMXBean) ManagementFactory.getThreadMXBean();
        long before = thread.getCurrentThreadAllocatedBytes();
        for (int i = 0; i < 20; i++) {
            x.type(0x2A2A612A, 4);
            x.type(0x7B5B612D, 4);
            x.type(0x7A5D2C7D, 4);
            x.rule(i % 2 == 0, 3);
            x.type(0x5B5B, 2);
            x.rule(true, 1);
            x.compile(120);
            x.sets();
            x.states();
            x.next(0, 97);
            x.gives(0);
            x.walk(97);
            x.place();
            x.way(3);
            x.restart();
            x.type(0x61626364, 4);
            x.match();
            x.compile(2);
            x.pieces(0);
            x.rules();
            x.drop(i % 3);
        }
        return thread.getCurrentThreadAllocatedBytes() - before;
    }
}
