import java.lang.management.ManagementFactory;

/** A run of calls may make little: the constructor makes the rows, and no call makes anything. */
public final class RoomTest {
    private static final Answers A = new Answers("RoomTest");
    private static final com.sun.management.ThreadMXBean ROOM =
            (com.sun.management.ThreadMXBean) ManagementFactory.getThreadMXBean();

    private static long made() {
        return ROOM.getThreadAllocatedBytes(Thread.currentThread().getId());
    }

    public static void main(String[] args) {
        callAll(new AppendZones());
        made();
        long start = made();
        AppendZones x = new AppendZones();
        long begun = made();
        callAll(x);
        long ended = made();
        A.dueTrue("an object is made of " + (begun - start) + " bytes", begun - start < 200_000);
        A.dueTrue("its calls make " + (ended - begun) + " bytes", ended - begun < 4_000);
        A.end();
    }

    private static void callAll(AppendZones x) {
        for (int round = 0; round < 14; round++) {
            x.set(2, 1 + round % 4);
            x.setZone(7, true, 1 + round % 9);
            x.setWindow(3, 1 + round % 8);
            for (int w = 0; w < 4; w++) {
                x.append(w, (w + round) % 8, w);
            }
            x.type((char) ('p' + round % 2));
            x.follow();
            x.would(round % 8, 0);
            x.toldIn(0);
            x.keep();
            x.pass(99);
            x.undo();
            x.restore();
            x.pass(5);
            x.read(0, 0);
            x.zone(0, 8);
            x.appended(0, 0);
            x.writer(0, 3);
            x.told(0);
            x.count(11);
            x.close(round % 8);
            x.finish(round % 8);
            x.reset(round % 8);
            x.clearText();
        }
    }
}
