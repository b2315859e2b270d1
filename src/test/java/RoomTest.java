import java.lang.management.ManagementFactory;
import java.lang.reflect.Array;
import java.lang.reflect.Field;
import java.lang.reflect.Modifier;
import java.util.IdentityHashMap;
import java.util.Map;

/** A run of calls may make little: the constructor makes the rows, and no call makes anything. */
public final class RoomTest {
    private static final Answers A = new Answers("RoomTest");
    private static final com.sun.management.ThreadMXBean ROOM =
            (com.sun.management.ThreadMXBean) ManagementFactory.getThreadMXBean();

    private static long made() {
        return ROOM.getThreadAllocatedBytes(Thread.currentThread().getId());
    }

    public static void main(String[] args) throws Exception {
        callAll(new AppendZones());
        made();
        long start = made();
        AppendZones x = new AppendZones();
        long begun = made();
        callAll(x);
        long ended = made();
        A.dueTrue("an object is made of " + (begun - start) + " bytes", begun - start < 200_000);
        A.dueTrue("its calls make " + (ended - begun) + " bytes", ended - begun < 4_000);
        aRunOfNewObjectsFits();
        A.end();
    }

    /** The constructor is the dearest call: even if every call of a run were one, the room would do. */
    private static void aRunOfNewObjectsFits() throws Exception {
        Map<Object, Boolean> found = new IdentityHashMap<>();
        long held = held(new AppendZones(), found);
        A.dueTrue("512 times " + found.size() + " objects and arrays", 512L * found.size() <= 600_000);
        A.dueTrue("512 times " + held + " fields and elements", 512L * held <= 7_300_000);
    }

    /** How many fields and elements an object and all that it holds have; all that it holds is put into the map. */
    private static long held(Object object, Map<Object, Boolean> found) throws Exception {
        if (object == null || found.put(object, true) != null) {
            return 0;
        }
        long held = 0;
        if (object.getClass().isArray()) {
            held += Array.getLength(object);
            for (int i = 0; i < Array.getLength(object) && object instanceof Object[]; i++) {
                held += held(Array.get(object, i), found);
            }
            return held;
        }
        for (Field field : object.getClass().getDeclaredFields()) {
            if (!Modifier.isStatic(field.getModifiers())) {
                field.setAccessible(true);
                held += 1 + (field.getType().isPrimitive() ? 0 : held(field.get(object), found));
            }
        }
        return held;
    }

    private static void callAll(AppendZones x) {
        for (int round = 0; round < 14; round++) {
            x.set(2, 1 + round % 4);
            x.setZone(7, true, 1 + round % 9);
            x.setWindow(3, 1 + round % 8);
            for (int w = 0; w < 4; w++) {
                x.append(w, (w + round) % 8, w);
            }
            x.type((char) ('p' + round % 2));
            x.follow();
            x.would(round % 8, 0);
            x.toldIn(0);
            x.keep();
            x.pass(99);
            x.undo();
            x.restore();
            x.pass(5);
            x.read(0, 0);
            x.zone(0, 8);
            x.appended(0, 0);
            x.writer(0, 3);
            x.told(0);
            x.count(11);
            x.close(round % 8);
            x.finish(round % 8);
            x.reset(round % 8);
            x.clearText();
        }
    }
}
