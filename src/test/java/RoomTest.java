import com.sun.management.ThreadMXBean;
import java.lang.management.ManagementFactory;
import java.lang.reflect.Array;
import java.lang.reflect.Field;
import java.lang.reflect.Modifier;
import java.util.IdentityHashMap;

/** The room that a run of 512 calls takes: 600,000 objects and arrays, 7.3 million fields and elements are there. */
public final class RoomTest {
    private static final int CALLS = 512;
    private static final long OBJECTS = 600000;
    private static final long ELEMENTS = 7300000;
    private static final ThreadMXBean BEAN = (ThreadMXBean) ManagementFactory.getThreadMXBean();

    private final IdentityHashMap<Object, Boolean> seen = new IdentityHashMap<>();
    private long elements = 0;

    public static void main(String[] args) throws IllegalAccessException {
        everyCallIsANewObject();
        everyCallSearches();
        everyTextIsDear();
        Check.end();
    }

    private static void everyCallIsANewObject() throws IllegalAccessException {
        RoomTest room = new RoomTest();
        room.count(new StripCloth());
        System.out.println("a new object: " + room.seen.size() + " objects, " + room.elements + " fields and elements");
        Check.due("512 new objects have room", room.seen.size() * CALLS < OBJECTS, true);
        Check.due("what is in 512 new objects has room", room.elements * CALLS < ELEMENTS, true);
    }

    private void count(Object o) throws IllegalAccessException {
        if (o == null || seen.put(o, true) != null) {
            return;
        }
        if (o.getClass().isArray()) {
            elements += Array.getLength(o);
            for (int k = 0; k < Array.getLength(o) && o instanceof Object[]; k++) {
                count(Array.get(o, k));
            }
            return;
        }
        for (Field f : o.getClass().getDeclaredFields()) {
            if (!Modifier.isStatic(f.getModifiers())) {
                elements++;
                f.setAccessible(true);
                if (!f.getType().isPrimitive()) {
                    count(f.get(o));
                }
            }
        }
    }

    /** A field or an element has at least a byte, and an object sixteen, so that bytes tell how many there can be. */
    private static void dueRoom(String what, long before) {
        long bytes = BEAN.getCurrentThreadAllocatedBytes() - before;
        System.out.println(what + ": " + bytes + " bytes");
        Check.due(what + " have room", bytes < ELEMENTS && bytes / 16 < OBJECTS, true);
    }

    private static void everyCallSearches() {
        StripCloth x = Check.with("strip a: 4(50(a1 b1)); strip b: 4(50(b1 a1)); cloth a: a,b,a,b,a,b,a,b;"
                + "cloth b: a,b,a,b,a,b,a,b,a,b,a,b;");
        for (int k = 0; k < 6; k++) {
            x.lot(0, 100000 - k);
        }
        long before = BEAN.getCurrentThreadAllocatedBytes();
        for (int k = 0; k < 96; k++) {
            x.shifts(1, 20);
            x.order(0);
            x.dye(0, 0);
            x.far(0, 1);
            x.cloth(1, -1, 3);
        }
        dueRoom("480 searches", before);
    }

    private static void everyTextIsDear() {
        StripCloth x = new StripCloth();
        long before = BEAN.getCurrentThreadAllocatedBytes();
        // strip a:4(50(a1b1)); has twenty bytes and as many PICKS and BLOCKS as can be
        for (int k = 0; k < CALLS / 2; k++) {
            x.feed(0x73747269, 0x7020613a, 0x34283530, 0x28613162, 0x3129293b);
            x.load(20);
        }
        Check.due("strip(0, 2)", x.strip(0, 2), 400);
        dueRoom("256 texts", before);
    }
}
