/** Each argument of each call: the smallest, the largest and those between them, and the ones beyond. */
public final class ArgumentsTest {
    private static final Answers A = new Answers("ArgumentsTest");
    private static final int UNKNOWN = -1;
    private static final int BAD_VALUE = -2;
    private static final int FULL = -3;
    private static final int NOT_POSSIBLE = -4;
    private static final int NONE = -5;

    /** A call on an object with one argument left open. */
    private interface Call {
        int on(AppendZones x, int argument);
    }

    public static void main(String[] args) {
        whatAndValueOfSet();
        zoneAndValueOfSetZone();
        writerAndWindowOfSetWindow();
        writerZoneAndValueOfAppend();
        zoneOfResetFinishAndClose();
        ticksOfPass();
        characterOfType();
        zoneAndPlaceOfRead();
        zoneAndWhatOfZone();
        appendAndWhatOfAppended();
        writerAndWhatOfWriter();
        rankOfTold();
        appendOfToldIn();
        zoneAndWhatOfWould();
        whatOfCount();
        A.end();
    }

    /** Open zones 0 and 3 with a told append in each, and one that waits for the zone 7. */
    private static AppendZones used() {
        AppendZones x = new AppendZones();
        x.append(0, 0, 5);
        x.append(1, 3, 6);
        x.pass(9);
        x.append(2, 7, 8);
        return x;
    }

    private static void refusesBeyond(String call, int least, int most, int due, Call made) {
        int[] beyond = {least - 1, most + 1, least - 256, most + 256, least + 65536, Integer.MIN_VALUE, Integer.MAX_VALUE};
        for (int argument : beyond) {
            A.due(call + " with " + argument + ", anew", made.on(new AppendZones(), argument), due);
            A.due(call + " with " + argument, made.on(used(), argument), due);
        }
    }

    private static void takes(String call, int least, int most, Call made) {
        for (int argument = least; argument <= most; argument++) {
            int anew = made.on(new AppendZones(), argument);
            int later = made.on(used(), argument);
            A.dueTrue(call + " takes " + argument + ", anew", anew != UNKNOWN && anew != BAD_VALUE);
            A.dueTrue(call + " takes " + argument, later != UNKNOWN && later != BAD_VALUE);
        }
    }

    private static void range(String call, int least, int most, int beyond, Call made) {
        takes(call, least, most, made);
        refusesBeyond(call, least, most, beyond, made);
    }

    private static void whatAndValueOfSet() {
        range("set, what", 0, 3, BAD_VALUE, (x, what) -> x.set(what, 1));
        range("set, the limit of open zones", 1, 8, BAD_VALUE, (x, value) -> x.set(0, value));
        range("set, that of zones in use", 1, 8, BAD_VALUE, (x, value) -> x.set(1, value));
        range("set, the channels", 1, 4, BAD_VALUE, (x, value) -> x.set(2, value));
        range("set, the manner", 0, 1, BAD_VALUE, (x, value) -> x.set(3, value));
        int[] least = {1, 1, 1, 0};
        int[] most = {8, 8, 4, 1};
        for (int what = 0; what < 4; what++) {
            AppendZones x = new AppendZones();
            x.set(what, least[what]);
            for (int value = least[what] + 1; value <= most[what]; value++) {
                A.due("set(" + what + ", " + value + ") answers the previous one", x.set(what, value), value - 1);
                A.due("set(" + what + ", " + value + ") once more", x.set(what, value), NONE);
                A.due("it is set", x.count(what + 1), value);
            }
        }
    }

    private static void zoneAndValueOfSetZone() {
        range("setZone, zone, delay", 0, 7, UNKNOWN, (x, zone) -> x.setZone(zone, true, 5));
        range("setZone, zone, capacity", 0, 7, UNKNOWN, (x, zone) -> x.setZone(zone, false, 5));
        range("setZone, the delay", 1, 9, BAD_VALUE, (x, value) -> x.setZone(3, true, value));
        range("setZone, the capacity", 1, 16, BAD_VALUE, (x, value) -> x.setZone(3, false, value));
        for (int zone = 0; zone < 8; zone++) {
            AppendZones x = new AppendZones();
            x.setZone(zone, false, 1);
            x.setZone(zone, true, 1);
            for (int value = 2; value <= 16; value++) {
                A.due("the previous capacity", x.setZone(zone, false, value), value - 1);
                A.due("once more", x.setZone(zone, false, value), NONE);
                A.due("it is set", x.zone(zone, 1), value);
                A.due("the previous delay", x.setZone(zone, true, value), value < 10 ? value - 1 : BAD_VALUE);
                A.due("it is set", x.zone(zone, 2), Math.min(value, 9));
            }
        }
    }

    private static void writerAndWindowOfSetWindow() {
        range("setWindow, writer", 0, 3, UNKNOWN, (x, writer) -> x.setWindow(writer, 5));
        range("setWindow, window", 1, 8, BAD_VALUE, (x, window) -> x.setWindow(0, window));
        for (int writer = 0; writer < 4; writer++) {
            AppendZones x = new AppendZones();
            x.setWindow(writer, 1);
            for (int window = 2; window <= 8; window++) {
                A.due("the previous window", x.setWindow(writer, window), window - 1);
                A.due("once more", x.setWindow(writer, window), NONE);
                A.due("it is set", x.writer(writer, 0), window);
            }
        }
    }

    private static void writerZoneAndValueOfAppend() {
        range("append, writer", 0, 3, UNKNOWN, (x, writer) -> x.append(writer, 0, 5));
        range("append, zone", 0, 7, UNKNOWN, (x, zone) -> x.append(0, zone, 5));
        range("append, value", 0, 99, BAD_VALUE, (x, value) -> x.append(0, 0, value));
        int[][] corners = {{0, 0, 0}, {0, 0, 99}, {0, 7, 0}, {0, 7, 99}, {3, 0, 0}, {3, 0, 99}, {3, 7, 0}, {3, 7, 99}};
        for (int[] c : corners) {
            AppendZones x = new AppendZones();
            A.due("its number is 0", x.append(c[0], c[1], c[2]), 0);
            for (int what = 0; what < 3; what++) {
                A.due("appended(0, " + what + ")", x.appended(0, what), c[what]);
            }
            x.pass(9);
            A.due("it can be read", x.read(c[1], 0), c[2]);
        }
    }

    private static void zoneOfResetFinishAndClose() {
        range("reset", 0, 7, UNKNOWN, (x, zone) -> x.reset(zone));
        range("finish", 0, 7, UNKNOWN, (x, zone) -> x.finish(zone));
        range("close", 0, 7, UNKNOWN, (x, zone) -> x.close(zone));
        for (int zone = 0; zone < 8; zone++) {
            AppendZones x = new AppendZones();
            x.append(0, zone, 5);
            x.pass(9);
            A.due("close(" + zone + ")", x.close(zone), 0);
            A.due("closed", x.zone(zone, 0), 2);
            A.due("finish(" + zone + ")", x.finish(zone), 0);
            A.due("full", x.zone(zone, 0), 3);
            A.due("reset(" + zone + ")", x.reset(zone), 1);
            A.due("empty", x.zone(zone, 0), 0);
        }
    }

    private static void ticksOfPass() {
        range("pass", 1, 99, BAD_VALUE, (x, ticks) -> x.pass(ticks));
        for (int ticks = 1; ticks <= 99; ticks++) {
            AppendZones x = new AppendZones();
            x.append(0, 0, 1);
            A.due("pass(" + ticks + ") tells", x.pass(ticks), ticks < 3 ? 0 : 1);
            A.due("the tick", x.count(0), ticks);
        }
    }

    private static void characterOfType() {
        AppendZones x = new AppendZones();
        for (int i = 0; i < 65536; i += 257) {
            x.clearText();
            A.due("type of " + i, x.type((char) i), 1);
            A.due("the length", x.count(15), 1);
        }
    }

    private static void zoneAndPlaceOfRead() {
        range("read, zone", 0, 7, UNKNOWN, (x, zone) -> x.read(zone, 0));
        AppendZones x = used();
        A.due("the place 0", x.read(0, 0), 5);
        A.due("the place -1", x.read(0, -1), BAD_VALUE);
        A.due("the smallest place", x.read(0, Integer.MIN_VALUE), BAD_VALUE);
        int[] beyond = {1, 15, 16, 17, 256, 65536, Integer.MAX_VALUE};
        for (int place : beyond) {
            A.due("the place " + place, x.read(0, place), NONE);
        }
        AppendZones full = new AppendZones();
        full.setZone(7, false, 16);
        for (int i = 0; i < 16; i++) {
            full.append(i % 4, 7, 80 + i);
            full.pass(9);
        }
        A.due("the place 0", full.read(7, 0), 80);
        A.due("the largest place", full.read(7, 15), 95);
        A.due("the one behind it", full.read(7, 16), NONE);
    }

    private static void zoneAndWhatOfZone() {
        range("zone, zone", 0, 7, UNKNOWN, (x, zone) -> x.zone(zone, 1));
        for (int zone = 0; zone < 8; zone++) {
            int asked = zone;
            range("zone, what", 0, 8, BAD_VALUE, (x, what) -> x.zone(asked, what));
        }
    }

    private static void appendAndWhatOfAppended() {
        AppendZones x = used();
        int[] beyond = {-1, 3, 199, 200, 201, 256, 65536, Integer.MIN_VALUE, Integer.MAX_VALUE};
        for (int append : beyond) {
            A.due("appended(" + append + ", 0)", x.appended(append, 0), UNKNOWN);
            A.due("appended(" + append + ", 0), anew", new AppendZones().appended(append, 0), UNKNOWN);
        }
        A.due("the smallest append", x.appended(0, 1), 0);
        A.due("the largest append", x.appended(2, 1), 7);
        int[] what = {-1, 8, 9, 256, Integer.MIN_VALUE, Integer.MAX_VALUE};
        for (int w : what) {
            A.due("appended(2, " + w + ")", x.appended(2, w), BAD_VALUE);
        }
        A.due("the smallest what", x.appended(2, 0), 2);
        A.due("the largest what", x.appended(1, 7), 0);
    }

    private static void writerAndWhatOfWriter() {
        range("writer, writer", 0, 3, UNKNOWN, (x, writer) -> x.writer(writer, 0));
        for (int writer = 0; writer < 4; writer++) {
            int asked = writer;
            range("writer, what", 0, 5, BAD_VALUE, (x, what) -> x.writer(asked, what));
        }
    }

    private static void rankOfTold() {
        AppendZones x = used();
        A.due("the smallest rank", x.told(0), 0);
        A.due("the largest rank", x.told(1), 1);
        int[] beyond = {2, 199, 200, 201, 256, 65536, Integer.MAX_VALUE};
        for (int rank : beyond) {
            A.due("told(" + rank + ")", x.told(rank), NONE);
            A.due("told(" + rank + "), anew", new AppendZones().told(rank), NONE);
        }
        A.due("told(-1)", x.told(-1), BAD_VALUE);
        A.due("told(-1), anew", new AppendZones().told(-1), BAD_VALUE);
        A.due("the smallest number", x.told(Integer.MIN_VALUE), BAD_VALUE);
    }

    private static void appendOfToldIn() {
        AppendZones x = used();
        int[] beyond = {-1, 3, 199, 200, 201, 256, Integer.MIN_VALUE, Integer.MAX_VALUE};
        for (int append : beyond) {
            A.due("toldIn(" + append + ")", x.toldIn(append), UNKNOWN);
            A.due("toldIn(" + append + "), anew", new AppendZones().toldIn(append), UNKNOWN);
        }
        A.due("the smallest append, which was told", x.toldIn(0), NOT_POSSIBLE);
        A.due("the largest append, which waits", x.toldIn(2), 4);
    }

    private static void zoneAndWhatOfWould() {
        range("would, zone, the place", 0, 7, UNKNOWN, (x, zone) -> x.would(zone, 0));
        range("would, zone, the ticks", 0, 7, UNKNOWN, (x, zone) -> x.would(zone, 1));
        for (int zone = 0; zone < 8; zone++) {
            int asked = zone;
            range("would, what", 0, 1, BAD_VALUE, (x, what) -> x.would(asked, what));
        }
    }

    private static void whatOfCount() {
        range("count", 0, 15, BAD_VALUE, (x, what) -> x.count(what));
        A.due("FULL is no answer of it", FULL, AppendZones.FULL);
    }
}
