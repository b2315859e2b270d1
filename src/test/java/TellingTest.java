/** Promises 16 to 23: read, zone, appended, writer, told, toldIn, would, count. */
public final class TellingTest {
    private static final Answers A = new Answers("TellingTest");

    public static void main(String[] args) {
        readsBlocks();
        tellsZones();
        countsBlocksFromTheStart();
        tellsAppends();
        tellsWriters();
        countsThoseToldAhead();
        tellsTheLog();
        foretellsAppends();
        foretellsWhatNeverComes();
        foretellsFailures();
        foretellsTheLongestWait();
        foretellsNewOnes();
        foretellsBeyondTheLastTick();
        aForecastChangesNothing();
        counts();
        A.end();
    }

    private static void readsBlocks() {
        AppendZones x = new AppendZones();
        A.due("UNKNOWN", x.read(8, -1), -1);
        A.due("UNKNOWN", x.read(-1, 0), -1);
        A.due("BAD_VALUE", x.read(0, -1), -2);
        A.due("BAD_VALUE", x.read(0, Integer.MIN_VALUE), -2);
        A.due("no block", x.read(0, 0), -5);
        x.append(0, 0, 0);
        x.append(0, 0, 99);
        A.due("it waits, so no block", x.read(0, 0), -5);
        x.pass(1);
        A.due("at work", x.read(0, 0), -4);
        A.due("at work", x.read(0, 1), -4);
        A.due("behind the pointer", x.read(0, 2), -5);
        A.due("beyond the capacity", x.read(0, 16), -5);
        A.due("far beyond", x.read(0, Integer.MAX_VALUE), -5);
        x.pass(2);
        A.due("value 0", x.read(0, 0), 0);
        A.due("at work", x.read(0, 1), -4);
        x.pass(1);
        A.due("value 99", x.read(0, 1), 99);
        A.due("of another zone", x.read(1, 0), -5);
    }

    private static void tellsZones() {
        AppendZones x = new AppendZones();
        A.due("UNKNOWN", x.zone(8, 9), -1);
        A.due("UNKNOWN", x.zone(-1, 0), -1);
        A.due("BAD_VALUE", x.zone(0, 9), -2);
        A.due("BAD_VALUE", x.zone(0, -1), -2);
        x.setZone(4, false, 5);
        for (int i = 0; i < 3; i++) {
            x.append(0, 4, i);
        }
        x.append(1, 0, 9);
        x.pass(1);
        int[] due = {1, 5, 3, 2, 0, 0, 2, 1, 0};
        for (int what = 0; what < 9; what++) {
            A.due("zone(4, " + what + ")", x.zone(4, what), due[what]);
        }
        A.due("one waits for the zone 0", x.zone(0, 7), 1);
        x.pass(3);
        int[] then = {1, 5, 3, 3, 0, 1, 2, 0, 1};
        for (int what = 0; what < 9; what++) {
            A.due("then zone(4, " + what + ")", x.zone(4, what), then[what]);
        }
    }

    private static void countsBlocksFromTheStart() {
        AppendZones x = new AppendZones();
        x.set(2, 4);
        x.append(0, 1, 1);
        x.append(0, 1, 2);
        x.append(0, 1, 3);
        x.append(1, 1, 4);
        x.pass(3);
        A.due("none", x.zone(1, 8), 0);
        x.pass(1);
        A.due("two can be read", x.zone(1, 5), 2);
        A.due("one from the start on", x.zone(1, 8), 1);
        A.due("the place 2", x.read(1, 2), 3);
        x.pass(1);
        A.due("four", x.zone(1, 8), 4);
        x.setZone(0, true, 9);
        x.append(0, 0, 1);
        x.pass(1);
        x.setZone(0, true, 1);
        x.append(0, 0, 2);
        x.pass(3);
        A.due("the place 1 is there, the place 0 is not", x.zone(0, 5), 1);
        A.due("so none from the start on", x.zone(0, 8), 0);
    }

    private static void tellsAppends() {
        AppendZones x = new AppendZones();
        A.due("UNKNOWN", x.appended(0, 9), -1);
        A.due("UNKNOWN", x.appended(-1, 0), -1);
        x.append(2, 3, 45);
        A.due("UNKNOWN", x.appended(1, 0), -1);
        A.due("UNKNOWN", x.appended(Integer.MAX_VALUE, 0), -1);
        A.due("BAD_VALUE", x.appended(0, 8), -2);
        A.due("BAD_VALUE", x.appended(0, -1), -2);
        int[] waiting = {2, 3, 45, 0, -5, -5, -5, -5};
        for (int what = 0; what < 8; what++) {
            A.due("waiting: appended(0, " + what + ")", x.appended(0, what), waiting[what]);
        }
        x.pass(1);
        int[] working = {2, 3, 45, 1, -5, -5, -5, -5};
        for (int what = 0; what < 8; what++) {
            A.due("at work: appended(0, " + what + ")", x.appended(0, what), working[what]);
        }
        x.pass(9);
        int[] told = {2, 3, 45, 2, 0, 2, -5, 0};
        for (int what = 0; what < 8; what++) {
            A.due("told: appended(0, " + what + ")", x.appended(0, what), told[what]);
        }
        x.reset(3);
        for (int what = 0; what < 8; what++) {
            A.due("told and reset: appended(0, " + what + ")", x.appended(0, what), told[what]);
        }
        x.append(1, 3, 6);
        x.append(1, 3, 7);
        x.pass(5);
        x.finish(3);
        x.append(1, 3, 8);
        x.pass(1);
        int[] second = {1, 3, 7, 2, 1, 13, -5, 1};
        for (int what = 0; what < 8; what++) {
            A.due("in the next generation: appended(2, " + what + ")", x.appended(2, what), second[what]);
        }
        int[] failed = {1, 3, 8, 3, -5, -5, 1, -5};
        for (int what = 0; what < 8; what++) {
            A.due("failed: appended(3, " + what + ")", x.appended(3, what), failed[what]);
        }
    }

    private static void tellsWriters() {
        AppendZones x = new AppendZones();
        A.due("UNKNOWN", x.writer(4, 6), -1);
        A.due("UNKNOWN", x.writer(-1, 0), -1);
        A.due("BAD_VALUE", x.writer(0, 6), -2);
        A.due("BAD_VALUE", x.writer(0, -1), -2);
        x.setWindow(1, 5);
        x.append(1, 0, 1);
        x.append(1, 0, 2);
        x.append(1, 3, 3);
        x.append(2, 3, 4);
        x.pass(3);
        int[] due = {5, 0, 2, 1, 0, 0};
        for (int what = 0; what < 6; what++) {
            A.due("writer(1, " + what + ")", x.writer(1, what), due[what]);
        }
        A.due("another waits", x.writer(2, 1), 1);
        x.reset(3);
        A.due("one failed", x.writer(1, 4), 1);
        A.due("one is at work", x.writer(1, 2), 1);
        A.due("of another none failed", x.writer(2, 4), 0);
    }

    private static void countsThoseToldAhead() {
        AppendZones x = new AppendZones();
        x.set(2, 4);
        x.setZone(0, true, 9);
        x.append(0, 0, 1);
        x.append(0, 3, 2);
        x.append(1, 3, 3);
        x.append(0, 3, 4);
        x.pass(4);
        A.due("two of the writer 0 are told ahead of its first", x.writer(0, 5), 2);
        A.due("none of the writer 1", x.writer(1, 5), 0);
        x.pass(9);
        A.due("the first one itself is not", x.writer(0, 5), 2);
        x.reset(0);
        x.reset(3);
        A.due("it stays so", x.writer(0, 5), 2);

        AppendZones y = new AppendZones();
        y.append(0, 1, 1);
        y.append(0, 4, 2);
        y.pass(9);
        A.due("told in one tick: none is ahead", y.writer(0, 5), 0);
        A.due("in one tick indeed", y.appended(0, 5) - y.appended(1, 5), 0);

        AppendZones w = new AppendZones();
        w.set(0, 1);
        w.append(0, 0, 1);
        w.append(0, 1, 2);
        w.append(0, 0, 3);
        w.pass(3);
        A.due("the first is told", w.told(0), 0);
        w.pass(1);
        A.due("the third is told ahead of one at work or waiting", w.writer(0, 5), 1);
        w.pass(9);
        A.due("the second is told at last", w.told(2), 1);
        A.due("one in all", w.writer(0, 5), 1);

        AppendZones f = new AppendZones();
        f.setZone(0, true, 9);
        f.append(0, 0, 1);
        f.append(0, 3, 2);
        f.pass(1);
        f.reset(0);
        f.pass(9);
        A.due("one that has failed is not ahead of any", f.writer(0, 5), 0);
    }

    private static void tellsTheLog() {
        AppendZones x = new AppendZones();
        A.due("BAD_VALUE", x.told(-1), -2);
        A.due("BAD_VALUE", x.told(Integer.MIN_VALUE), -2);
        A.due("NONE", x.told(0), -5);
        x.setZone(0, true, 9);
        x.append(0, 0, 1);
        x.append(0, 3, 2);
        x.pass(5);
        A.due("the second first", x.told(0), 1);
        A.due("NONE", x.told(1), -5);
        x.pass(9);
        A.due("then the first", x.told(1), 0);
        A.due("NONE", x.told(2), -5);
        A.due("NONE", x.told(200), -5);
        A.due("NONE", x.told(Integer.MAX_VALUE), -5);
        x.reset(0);
        A.due("a reset takes none out", x.told(1), 0);
    }

    private static void foretellsAppends() {
        AppendZones x = new AppendZones();
        A.due("UNKNOWN", x.toldIn(0), -1);
        A.due("UNKNOWN", x.toldIn(-1), -1);
        A.due("UNKNOWN", x.toldIn(200), -1);
        x.append(0, 0, 1);
        x.append(0, 1, 2);
        x.append(0, 2, 3);
        A.due("3 ticks", x.toldIn(0), 3);
        A.due("4 ticks", x.toldIn(1), 4);
        A.due("a zone is closed for it in the tick 2: 2 + 4 + 1", x.toldIn(2), 7);
        A.due("so many ticks less one", x.pass(6), 2);
        A.due("one more", x.toldIn(2), 1);
        A.due("is told", x.pass(1), 1);
        A.due("was told", x.toldIn(2), -4);
        x.append(1, 0, 4);
        x.pass(1);
        x.reset(0);
        A.due("has failed", x.toldIn(3), -4);
        A.due("UNKNOWN", x.toldIn(4), -1);
    }

    private static void foretellsWhatNeverComes() {
        AppendZones x = new AppendZones();
        x.set(1, 1);
        x.append(0, 0, 1);
        x.append(0, 1, 2);
        A.due("the first comes", x.toldIn(0), 3);
        A.due("the second never", x.toldIn(1), -5);
        A.due("nor a third", x.would(1, 0), -5);
        A.due("nor a third", x.would(2, 1), -5);
        A.due("one in the zone 0 does", x.would(0, 0), 1);
        x.pass(50);
        A.due("the second never", x.toldIn(1), -5);
        A.due("one in the zone 0 does", x.would(0, 1), 4);
        x.finish(0);
        A.due("now it does", x.toldIn(1), 4);
    }

    private static void foretellsFailures() {
        AppendZones x = new AppendZones();
        x.setZone(0, false, 2);
        x.append(0, 0, 1);
        x.append(0, 0, 2);
        x.append(0, 0, 3);
        A.due("the second comes", x.toldIn(1), 4);
        A.due("the third fails", x.toldIn(2), -5);
        A.due("it would fail", x.would(0, 0), -5);
        A.due("it would fail", x.would(0, 1), -5);
        x.pass(9);
        A.due("it failed", x.toldIn(2), -4);
        A.due("it would fail", x.would(0, 0), -5);
    }

    private static void foretellsTheLongestWait() {
        AppendZones x = new AppendZones();
        x.set(2, 1);
        for (int w = 0; w < 4; w++) {
            x.setWindow(w, 8);
        }
        for (int z = 0; z < 2; z++) {
            x.setZone(z, false, 16);
            x.setZone(z, true, 9);
        }
        for (int i = 0; i < 32; i++) {
            x.append(i % 4, i / 16, i);
        }
        A.due("16 times 9 and 16 times 10, and one", x.toldIn(31), 305);
        x.setZone(2, true, 9);
        A.due("one more of 9", x.would(2, 1), 314);
        A.due("its place", x.would(2, 0), 0);
        x.pass(99);
        x.pass(99);
        x.pass(99);
        A.due("eight more ticks", x.toldIn(31), 8);
        A.due("seven do not do", x.pass(7), 0);
        A.due("the eighth does", x.pass(1), 1);
    }

    private static void foretellsNewOnes() {
        AppendZones x = new AppendZones();
        A.due("UNKNOWN", x.would(8, 2), -1);
        A.due("UNKNOWN", x.would(-1, 0), -1);
        A.due("BAD_VALUE", x.would(0, 2), -2);
        A.due("BAD_VALUE", x.would(0, -1), -2);
        A.due("the place 0", x.would(5, 0), 0);
        A.due("in 4 and 1 ticks", x.would(5, 1), 5);
        for (int w = 0; w < 4; w++) {
            x.setWindow(w, 1);
            x.append(w, 0, w);
        }
        A.due("whatever windows there are", x.would(0, 0), 4);
        A.due("its ticks", x.would(0, 1), 7);
        A.due("FULL", x.append(0, 0, 9), -3);
        x.setWindow(0, 2);
        A.due("in truth", x.append(0, 0, 9), 4);
        A.due("in as many ticks", x.toldIn(4), 7);
        x.pass(7);
        A.due("at that place", x.appended(4, 4), 4);
    }

    private static void foretellsBeyondTheLastTick() {
        AppendZones x = new AppendZones();
        for (int i = 0; i < 101; i++) {
            x.pass(99);
        }
        A.due("the last tick", x.count(0), 9999);
        x.append(0, 0, 1);
        A.due("a forecast knows no last tick", x.toldIn(0), 3);
        A.due("a forecast knows no last tick", x.would(0, 1), 4);
    }

    private static void aForecastChangesNothing() {
        AppendZones x = new AppendZones();
        x.set(3, 1);
        x.append(0, 0, 1);
        x.append(0, 1, 2);
        x.append(0, 2, 3);
        for (int i = 0; i < 3; i++) {
            x.toldIn(2);
            x.would(7, 1);
        }
        A.due("the tick", x.count(0), 0);
        A.due("appends", x.count(7), 3);
        A.due("waiting", x.count(8), 3);
        A.due("told", x.count(10), 0);
        A.due("turn", x.count(13), 0);
        A.due("made way", x.count(12), 0);
        A.due("zone 0", x.zone(0, 0), 0);
        A.due("history", x.count(14), 4);
        x.undo();
        A.due("appends", x.count(7), 2);
    }

    private static void counts() {
        AppendZones x = new AppendZones();
        A.due("BAD_VALUE", x.count(16), -2);
        A.due("BAD_VALUE", x.count(-1), -2);
        A.due("BAD_VALUE", x.count(Integer.MAX_VALUE), -2);
        A.due("BAD_VALUE", x.count(Integer.MIN_VALUE), -2);
        x.set(0, 3);
        x.set(1, 7);
        x.set(2, 3);
        x.set(3, 1);
        x.setZone(0, false, 1);
        x.append(0, 0, 1);
        x.append(0, 0, 2);
        x.append(0, 1, 3);
        x.append(1, 3, 4);
        x.append(1, 4, 5);
        x.append(1, 5, 6);
        x.append(2, 6, 7);
        x.type('p');
        x.type('1');
        int[] first = {0, 3, 7, 3, 1, 0, 0, 7, 7, 0, 0, 0, 0, 0, 4, 2};
        for (int what = 0; what < 16; what++) {
            A.due("first count(" + what + ")", x.count(what), first[what]);
        }
        x.pass(4);
        // In the tick 0 begin 0, 2 and 3, and 1 fails; in the tick 2, which tells 0 and 3, begin 4, and 5, for
        // which the zone 3 makes way; in the tick 3, which tells 2, begins 6, for which the zone 1 makes way.
        int[] then = {4, 3, 7, 3, 1, 3, 5, 7, 0, 3, 3, 1, 2, 7, 4, 2};
        for (int what = 0; what < 16; what++) {
            A.due("then count(" + what + ")", x.count(what), then[what]);
        }
    }
}
