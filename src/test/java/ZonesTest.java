/** Promises 5 to 8: append, reset, finish, close. */
public final class ZonesTest {
    private static final Answers A = new Answers("ZonesTest");

    public static void main(String[] args) {
        sendsAppends();
        refusesAppendsBeyondTheWindow();
        refusesTheAppend201();
        resets();
        aResetFailsWhatIsAtWork();
        aResetFreesChannels();
        finishes();
        whatIsAtWorkInAFinishedZoneGoesOn();
        closes();
        A.end();
    }

    private static void sendsAppends() {
        AppendZones x = new AppendZones();
        A.due("UNKNOWN writer", x.append(4, 0, 100), -1);
        A.due("UNKNOWN writer", x.append(-1, 0, 0), -1);
        A.due("UNKNOWN zone", x.append(0, 8, 100), -1);
        A.due("UNKNOWN zone", x.append(0, -1, 0), -1);
        A.due("value 100", x.append(0, 0, 100), -2);
        A.due("value -1", x.append(0, 0, -1), -2);
        A.due("nothing came of it", x.count(7) + x.count(14), 0);
        A.due("value 0", x.append(0, 0, 0), 0);
        A.due("value 99", x.append(3, 7, 99), 1);
        A.due("it waits", x.appended(1, 3), 0);
        A.due("two are recorded", x.count(14), 2);
        A.due("no tick passed", x.count(0), 0);
    }

    private static void refusesAppendsBeyondTheWindow() {
        AppendZones x = new AppendZones();
        x.append(0, 0, 1);
        x.append(0, 0, 2);
        x.append(0, 1, 3);
        A.due("FULL", x.append(0, 2, 4), -3);
        A.due("a bad value comes first", x.append(0, 2, 100), -2);
        A.due("an unknown zone comes first", x.append(0, 8, 4), -1);
        A.due("another writer", x.append(1, 2, 4), 3);
        x.pass(1);
        A.due("those at work count too", x.append(0, 2, 4), -3);
        A.due("one is told", x.pass(2), 1);
        A.due("one may come", x.append(0, 2, 4), 4);
        A.due("FULL again", x.append(0, 2, 4), -3);
        x.reset(0);
        A.due("one that failed does not count", x.append(0, 2, 4), 5);
        A.due("FULL again", x.append(0, 2, 4), -3);
        A.due("a refused one has no number", x.count(7), 6);
    }

    private static void refusesTheAppend201() {
        AppendZones x = new AppendZones();
        x.set(2, 4);
        x.setZone(0, true, 1);
        x.setZone(0, false, 16);
        for (int w = 0; w < 4; w++) {
            x.setWindow(w, 8);
        }
        int sent = 0;
        for (int round = 0; round < 12; round++) {
            for (int i = 0; i < 16; i++) {
                A.due("the append " + sent, x.append(i % 4, 0, i), sent);
                sent++;
            }
            A.due("all are told", x.pass(9), 16);
            x.reset(0);
        }
        for (int i = 0; i < 8; i++) {
            A.due("the append " + sent, x.append(1, 0, i), sent);
            sent++;
        }
        A.due("the append 201", x.append(2, 0, 0), -3);
        A.due("200 have been", x.count(7), 200);
        A.due("a forecast is no append", x.would(0, 0), 8);
        A.due("would's ticks", x.would(0, 1), 4);
        A.due("the last one", x.appended(199, 2), 7);
        A.due("there is no other", x.appended(200, 2), -1);
        x.pass(9);
        A.due("all were told", x.count(10), 200);
        A.due("the last one in the log", x.told(199), 199);
        A.due("there is no other", x.told(200), -5);
        A.due("the append 201", x.append(2, 0, 0), -3);
        x.undo();
        x.undo();
        A.due("199 have been", x.count(7), 199);
        A.due("the last one once more", x.append(0, 3, 55), 199);
        A.due("it is another", x.appended(199, 1), 3);
    }

    private static void resets() {
        AppendZones x = new AppendZones();
        A.due("UNKNOWN", x.reset(8), -1);
        A.due("UNKNOWN", x.reset(-1), -1);
        A.due("empty", x.reset(0), -5);
        x.append(0, 0, 5);
        A.due("empty while one waits", x.reset(0), -5);
        x.append(0, 0, 6);
        x.append(0, 0, 7);
        x.pass(9);
        A.due("three blocks", x.zone(0, 5), 3);
        A.due("its pointer", x.zone(0, 3), 3);
        A.due("three were there", x.reset(0), 3);
        A.due("its state", x.zone(0, 0), 0);
        A.due("its pointer", x.zone(0, 3), 0);
        A.due("its generation", x.zone(0, 4), 1);
        A.due("its blocks", x.zone(0, 5), 0);
        A.due("its blocks from 0 on", x.zone(0, 8), 0);
        A.due("no block", x.read(0, 0), -5);
        A.due("empty again", x.reset(0), -5);
        A.due("its generation", x.zone(0, 4), 1);
        A.due("its capacity stays", x.zone(0, 1), 8);
        A.due("the told ones stay told", x.appended(1, 3), 2);
        A.due("and their places", x.appended(1, 4), 1);
        A.due("and their ticks", x.appended(1, 5), 3);
        A.due("and their generation", x.appended(1, 7), 0);
        A.due("no zone is in use", x.count(6), 0);
        x.append(0, 0, 8);
        x.pass(9);
        A.due("another block at the place 0", x.read(0, 0), 8);
        A.due("in another generation", x.appended(3, 7), 1);
        A.due("none at the place 1", x.read(0, 1), -5);
        x.close(0);
        A.due("a closed zone", x.reset(0), 1);
        x.append(0, 0, 9);
        x.pass(9);
        x.finish(0);
        A.due("a full zone", x.reset(0), 1);
        A.due("its generation", x.zone(0, 4), 3);
        A.due("that of another", x.zone(1, 4), 0);
    }

    private static void aResetFailsWhatIsAtWork() {
        AppendZones x = new AppendZones();
        x.append(0, 0, 1);
        x.append(0, 3, 2);
        x.append(0, 0, 3);
        x.append(1, 0, 4);
        x.pass(1);
        A.due("the blocks at work are none", x.reset(0), 0);
        A.due("what was at work failed", x.appended(0, 3), 3);
        A.due("why", x.appended(0, 6), 2);
        A.due("it was told no place", x.appended(0, 4), -5);
        A.due("in no tick", x.appended(0, 5), -5);
        A.due("in no generation", x.appended(0, 7), -5);
        A.due("in another zone it goes on", x.appended(1, 3), 1);
        A.due("what waits goes on waiting", x.appended(2, 3), 0);
        A.due("for no reason", x.appended(2, 6), -5);
        A.due("what failed is not told", x.toldIn(0), -4);
        x.pass(1);
        A.due("it begins at the place 0", x.read(0, 0), -4);
        x.pass(9);
        A.due("its value", x.read(0, 0), 3);
        A.due("and the next one's", x.read(0, 1), 4);
        A.due("told ones", x.count(10), 3);
        A.due("failed ones", x.count(11), 1);
    }

    private static void aResetFreesChannels() {
        AppendZones x = new AppendZones();
        x.set(2, 1);
        x.setZone(0, true, 9);
        x.append(0, 0, 1);
        x.append(0, 1, 2);
        x.pass(2);
        A.due("no channel", x.appended(1, 3), 0);
        x.reset(0);
        A.due("none is at work", x.count(9), 0);
        x.pass(1);
        A.due("a channel", x.appended(1, 3), 1);
    }

    private static void finishes() {
        AppendZones x = new AppendZones();
        A.due("UNKNOWN", x.finish(8), -1);
        A.due("UNKNOWN", x.finish(-1), -1);
        A.due("empty", x.finish(2), -4);
        x.append(0, 2, 1);
        A.due("empty while one waits", x.finish(2), -4);
        x.pass(9);
        x.append(0, 2, 2);
        x.append(1, 2, 3);
        x.append(1, 3, 4);
        A.due("two fail", x.finish(2), 2);
        A.due("full", x.zone(2, 0), 3);
        A.due("the reason", x.appended(1, 6), 3);
        A.due("the reason", x.appended(2, 6), 3);
        A.due("failed", x.appended(2, 3), 3);
        A.due("that for another zone waits", x.appended(3, 3), 0);
        A.due("full already", x.finish(2), -5);
        A.due("its pointer stays", x.zone(2, 3), 1);
        A.due("its block stays", x.read(2, 0), 1);
        A.due("no block behind it", x.read(2, 1), -5);
        A.due("it is not in use", x.count(6), 0);
        x.append(0, 2, 5);
        A.due("full with one that waits", x.finish(2), -5);
        A.due("it waits until the tick", x.appended(4, 3), 0);
        x.pass(1);
        A.due("it fails then", x.appended(4, 6), 1);
        x.pass(9);
        x.close(3);
        A.due("a closed zone", x.finish(3), 0);
        A.due("full", x.zone(3, 0), 3);
    }

    private static void whatIsAtWorkInAFinishedZoneGoesOn() {
        AppendZones x = new AppendZones();
        x.append(0, 0, 1);
        x.append(0, 0, 2);
        x.append(0, 0, 3);
        x.pass(1);
        A.due("one fails", x.finish(0), 1);
        A.due("two are at work", x.zone(0, 6), 2);
        A.due("a place at work", x.read(0, 1), -4);
        A.due("both are told", x.pass(3), 2);
        A.due("the block 0", x.read(0, 0), 1);
        A.due("the block 1", x.read(0, 1), 2);
        A.due("full still", x.zone(0, 0), 3);
    }

    private static void closes() {
        AppendZones x = new AppendZones();
        A.due("UNKNOWN", x.close(8), -1);
        A.due("UNKNOWN", x.close(-1), -1);
        A.due("empty", x.close(0), -4);
        x.append(0, 0, 1);
        x.append(0, 1, 2);
        x.pass(1);
        A.due("one is at work", x.close(0), -4);
        x.pass(2);
        A.due("the zone 1 has one at work", x.close(1), -4);
        A.due("one is open then", x.close(0), 1);
        A.due("closed", x.zone(0, 0), 2);
        A.due("closed already", x.close(0), -4);
        A.due("it is in use", x.count(6), 2);
        A.due("it made no way", x.count(12), 0);
        A.due("its block can be read", x.read(0, 0), 1);
        x.pass(9);
        A.due("none is open then", x.close(1), 0);
        x.append(0, 0, 3);
        A.due("closed while one waits", x.zone(0, 0), 2);
        x.pass(1);
        A.due("opened again", x.zone(0, 0), 1);
        A.due("at its pointer", x.zone(0, 3), 2);
        x.pass(9);
        x.finish(0);
        A.due("full", x.close(0), -4);
    }
}
