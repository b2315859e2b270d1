/** Promises 1 to 4: a new object, set, setZone, setWindow. */
public final class SettingsTest {
    private static final Answers A = new Answers("SettingsTest");

    public static void main(String[] args) {
        aNewObject();
        setsNumbers();
        refusesLimitsBelowWhatIs();
        theLimitOfOpenZonesCounts();
        theLimitOfZonesInUseCounts();
        setsZones();
        aDelayCountsFromTheNextStart();
        setsWindows();
        refusedSettingsChangeNothing();
        A.end();
    }

    private static void aNewObject() {
        AppendZones x = new AppendZones();
        int[] delays = {2, 3, 4, 2, 3, 4, 2, 3};
        for (int z = 0; z < 8; z++) {
            int[] due = {0, 8, delays[z], 0, 0, 0, 0, 0, 0};
            for (int what = 0; what < 9; what++) {
                A.due("new zone(" + z + ", " + what + ")", x.zone(z, what), due[what]);
            }
            A.due("new read(" + z + ", 0)", x.read(z, 0), -5);
        }
        for (int w = 0; w < 4; w++) {
            for (int what = 0; what < 6; what++) {
                A.due("new writer(" + w + ", " + what + ")", x.writer(w, what), what == 0 ? 3 : 0);
            }
        }
        int[] numbers = {0, 2, 4, 2, 0, 0, 0, 0, 0, 0, 0, 0, 0, 0, 0, 0};
        for (int what = 0; what < 16; what++) {
            A.due("new count(" + what + ")", x.count(what), numbers[what]);
        }
        A.due("new told(0)", x.told(0), -5);
        A.due("new appended(0, 0)", x.appended(0, 0), -1);
        A.due("new undo()", x.undo(), -5);
        A.due("new restore()", x.restore(), -5);
        A.due("new follow()", x.follow(), -100);
        A.due("two objects share nothing", new AppendZones().append(0, 0, 1) + x.count(7), 0);
    }

    private static void setsNumbers() {
        int[] first = {2, 4, 2, 0};
        int[] least = {1, 1, 1, 0};
        int[] most = {8, 8, 4, 1};
        for (int what = 0; what < 4; what++) {
            AppendZones x = new AppendZones();
            A.due("set to what it is", x.set(what, first[what]), -5);
            A.due("below the least", x.set(what, least[what] - 1), -2);
            A.due("above the most", x.set(what, most[what] + 1), -2);
            A.due("far below", x.set(what, Integer.MIN_VALUE), -2);
            A.due("far above", x.set(what, Integer.MAX_VALUE), -2);
            A.due("none of them is recorded", x.count(14), 0);
            A.due("set " + what + " to the most", x.set(what, most[what]), first[what]);
            A.due("is set", x.count(what + 1), most[what]);
            A.due("set " + what + " to the least", x.set(what, least[what]), most[what]);
            A.due("is set", x.count(what + 1), least[what]);
            A.due("both are recorded", x.count(14), 2);
        }
        AppendZones x = new AppendZones();
        A.due("no such number", x.set(4, 1), -2);
        A.due("no such number", x.set(-1, 1), -2);
        A.due("no such number", x.set(Integer.MAX_VALUE, 1), -2);
    }

    private static AppendZones withZonesInUse() {
        AppendZones x = new AppendZones();
        x.set(0, 3);
        x.set(1, 5);
        x.set(2, 4);
        x.append(0, 0, 1);
        x.append(0, 3, 1);
        x.append(0, 6, 1);
        x.append(1, 1, 1);
        x.pass(30);
        return x;
    }

    private static void refusesLimitsBelowWhatIs() {
        AppendZones x = withZonesInUse();
        A.due("three are open", x.count(5), 3);
        A.due("four are in use", x.count(6), 4);
        A.due("fewer than are open", x.set(0, 2), -4);
        A.due("as many as are open", x.set(0, 3), -5);
        A.due("fewer than are in use", x.set(1, 3), -4);
        A.due("as many as are in use", x.set(1, 4), 5);
        A.due("a bad value comes first", x.set(0, 0), -2);
        A.due("a full zone is not in use", x.finish(0), 0);
        A.due("closed ones are in use all the same", x.count(6), 3);
        A.due("fewer than are in use", x.set(1, 2), -4);
        A.due("as many as are in use", x.set(1, 3), 4);
        A.due("it was a closed one, so three are open", x.count(5), 3);
        A.due("a full zone is not open", x.finish(3), 0);
        A.due("fewer than are open", x.set(0, 1), -4);
        A.due("as many as are open", x.set(0, 2), 3);
    }

    private static void theLimitOfOpenZonesCounts() {
        AppendZones x = new AppendZones();
        x.set(2, 4);
        x.append(0, 0, 1);
        x.append(0, 1, 1);
        x.append(0, 2, 1);
        x.pass(1);
        A.due("two are open", x.count(5), 2);
        A.due("the third waits", x.appended(2, 3), 0);
        A.due("set(0, 3)", x.set(0, 3), 2);
        x.pass(1);
        A.due("three are open", x.count(5), 3);
        A.due("the third is at work", x.appended(2, 3), 1);
    }

    private static void theLimitOfZonesInUseCounts() {
        AppendZones x = new AppendZones();
        x.set(1, 1);
        x.append(0, 0, 1);
        x.append(0, 1, 1);
        x.pass(99);
        A.due("one is in use", x.count(6), 1);
        A.due("it was not closed in vain", x.zone(0, 0), 1);
        A.due("nothing was closed", x.count(12), 0);
        A.due("the second waits", x.appended(1, 3), 0);
        A.due("set(1, 2)", x.set(1, 2), 1);
        x.pass(9);
        A.due("the second is told", x.appended(1, 3), 2);
    }

    private static void setsZones() {
        AppendZones x = new AppendZones();
        A.due("UNKNOWN", x.setZone(8, false, 99), -1);
        A.due("UNKNOWN", x.setZone(-1, true, 99), -1);
        A.due("capacity 0", x.setZone(7, false, 0), -2);
        A.due("capacity 17", x.setZone(7, false, 17), -2);
        A.due("delay 0", x.setZone(7, true, 0), -2);
        A.due("delay 10", x.setZone(7, true, 10), -2);
        A.due("capacity as it is", x.setZone(7, false, 8), -5);
        A.due("delay as it is", x.setZone(7, true, 3), -5);
        A.due("capacity 1", x.setZone(7, false, 1), 8);
        A.due("capacity 16", x.setZone(7, false, 16), 1);
        A.due("delay 1", x.setZone(7, true, 1), 3);
        A.due("delay 9", x.setZone(7, true, 9), 1);
        A.due("the capacity is set", x.zone(7, 1), 16);
        A.due("the delay is set", x.zone(7, 2), 9);
        A.due("not that of another", x.zone(6, 1), 8);
        A.due("not that of another", x.zone(6, 2), 2);
        A.due("four are recorded", x.count(14), 4);
        x.append(0, 7, 1);
        A.due("a zone for which one waits is empty", x.setZone(7, false, 2), 16);
        x.pass(1);
        A.due("not empty", x.setZone(7, false, 3), -4);
        A.due("not empty, and as it is", x.setZone(7, false, 2), -4);
        A.due("a bad value comes first", x.setZone(7, false, 17), -2);
        A.due("a delay at any time", x.setZone(7, true, 2), 9);
        x.finish(7);
        A.due("full, so not empty", x.setZone(7, false, 3), -4);
        x.reset(7);
        A.due("empty again", x.setZone(7, false, 3), 2);
        A.due("it keeps its delay", x.zone(7, 2), 2);
    }

    private static void aDelayCountsFromTheNextStart() {
        AppendZones x = new AppendZones();
        x.append(0, 0, 1);
        x.pass(1);
        x.setZone(0, true, 9);
        A.due("what is at work keeps its tick", x.toldIn(0), 2);
        x.append(0, 0, 2);
        A.due("at the place 1 one tick more", x.toldIn(1), 11);
        x.append(0, 0, 3);
        x.pass(2);
        A.due("at the place 2 no tick more", x.toldIn(2), 9);
    }

    private static void setsWindows() {
        AppendZones x = new AppendZones();
        A.due("UNKNOWN", x.setWindow(4, 99), -1);
        A.due("UNKNOWN", x.setWindow(-1, 1), -1);
        A.due("window 0", x.setWindow(3, 0), -2);
        A.due("window 9", x.setWindow(3, 9), -2);
        A.due("as it is", x.setWindow(3, 3), -5);
        A.due("nothing is recorded", x.count(14), 0);
        A.due("window 8", x.setWindow(3, 8), 3);
        A.due("is set", x.writer(3, 0), 8);
        A.due("not that of another", x.writer(2, 0), 3);
        for (int i = 0; i < 8; i++) {
            A.due("the append " + i, x.append(3, 0, i), i);
        }
        A.due("FULL", x.append(3, 0, 8), -3);
        A.due("window 1 with eight that wait", x.setWindow(3, 1), 8);
        A.due("FULL", x.append(3, 0, 8), -3);
        A.due("they all wait on", x.writer(3, 1), 8);
        A.due("two are recorded, the oldest dropped", x.count(14), 4);
    }

    private static void refusedSettingsChangeNothing() {
        AppendZones x = withZonesInUse();
        x.set(0, 1);
        x.set(1, 1);
        x.set(2, 5);
        x.set(3, 2);
        x.setZone(0, false, 16);
        x.setZone(0, true, 10);
        x.setWindow(0, 9);
        A.due("open limit", x.count(1), 3);
        A.due("use limit", x.count(2), 5);
        A.due("channels", x.count(3), 4);
        A.due("manner", x.count(4), 0);
        A.due("capacity", x.zone(0, 1), 8);
        A.due("delay", x.zone(0, 2), 2);
        A.due("window", x.writer(0, 0), 3);
    }
}
