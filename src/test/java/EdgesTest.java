/**
 * The edges of the document's terms, from "Zones" to "History": a test for each sentence that names one.
 * The edges of each call's arguments are in ArgumentsTest, what is refused is in RefusalsTest.
 */
public final class EdgesTest {
    private static final Answers A = new Answers("EdgesTest");
    private static final int FULL = -3;
    private static final int NOT_POSSIBLE = -4;
    private static final int NONE = -5;

    public static void main(String[] args) {
        eachCapacityFromTheSmallestToTheLargest();
        eachDelayFromTheSmallestToTheLargest();
        anEmptyZoneHasThePointerZero();
        fullZonesAreNotInUse();
        eachLimitOfOpenZones();
        eachLimitOfZonesInUse();
        eachWindow();
        appendsAreNumberedFromZero();
        atMostTwoHundredAppendsEver();
        eachNumberOfChannels();
        aBlockIsThereInTheTickThatIsDueAndNotBefore();
        behindSevenComesZero();
        theTurnGoesRound();
        noTurnWhereNoneBegan();
        aFullZoneFailsWithoutAChannel();
        theLastPlaceOfAZone();
        theEarliestEventDecides();
        nothingIsClosedInVain();
        aClosedZoneNeedsNoRoomAmongThoseInUse();
        aResetZoneIsAsEmptyAsAtFirst();
        aResetOfAFullZoneFailsWhatIsAtWork();
        whatWaitsOutlivesAReset();
        whatFailedIsCountedAtOnce();
        theTickEndsAt9999();
        textsAreEmptyAtFirstAndAgain();
        everyOrderIsFollowedOnlyBySemicolon();
        fourStatesAreKept();
        eachActDropsTheOldestState();
        theSnapshotIsEmptyAtFirst();
        A.end();
    }

    private static void send(AppendZones x, int zone, int count) {
        for (int i = 0; i < count; i++) {
            int before = x.count(7);
            A.due("an append to the zone " + zone, x.append(before % 4, zone, before % 100), before);
        }
    }

    private static void widen(AppendZones x) {
        for (int w = 0; w < 4; w++) {
            x.setWindow(w, 8);
        }
    }

    // ---- zones

    /** "a capacity (1 to 16 blocks; 8 at first)", "3 full", "If the pointer is the capacity then, the zone is full". */
    private static void eachCapacityFromTheSmallestToTheLargest() {
        for (int capacity = 1; capacity <= 16; capacity++) {
            for (int zone = 0; zone < 8; zone += 7) {
                AppendZones x = new AppendZones();
                x.setZone(zone, false, capacity);
                widen(x);
                send(x, zone, capacity - 1);
                x.pass(99);
                A.due("one block less than " + capacity, x.zone(zone, 0), capacity == 1 ? 0 : 1);
                A.due("its pointer", x.zone(zone, 3), capacity - 1);
                send(x, zone, 2);
                x.pass(1);
                A.due("full with the last block at work", x.zone(zone, 0), 3);
                A.due("its pointer", x.zone(zone, 3), capacity);
                A.due("the one beyond failed", x.appended(capacity, 6), 1);
                x.pass(9);
                A.due("the blocks that can be read", x.zone(zone, 5), capacity);
                A.due("the last one", x.read(zone, capacity - 1), capacity - 1);
                A.due("none behind it", x.read(zone, capacity), NONE);
                A.due("from the start on", x.zone(zone, 8), capacity);
            }
        }
        AppendZones x = new AppendZones();
        widen(x);
        send(x, 5, 9);
        x.pass(99);
        A.due("eight at first", x.zone(5, 5), 8);
        A.due("the ninth failed", x.appended(8, 6), 1);
    }

    /** "a delay (1 to 9 ticks; 2 plus the rest of its number by 3 at first)". */
    private static void eachDelayFromTheSmallestToTheLargest() {
        int[] first = {2, 3, 4, 2, 3, 4, 2, 3};
        for (int zone = 0; zone < 8; zone++) {
            AppendZones x = new AppendZones();
            send(x, zone, 1);
            x.pass(20);
            A.due("at first", x.appended(0, 5), first[zone]);
            for (int delay = 1; delay <= 9; delay++) {
                AppendZones y = new AppendZones();
                y.setZone(zone, true, delay);
                send(y, zone, 1);
                A.due("none is told ahead of the delay " + delay, y.pass(delay), 0);
                A.due("then it is", y.pass(1), 1);
                A.due("its tick", y.appended(0, 5), delay);
            }
        }
    }

    /** "0 empty (its pointer is 0; at first)", "a generation (0 at first)". */
    private static void anEmptyZoneHasThePointerZero() {
        AppendZones x = new AppendZones();
        for (int zone = 0; zone < 8; zone++) {
            A.due("the state at first", x.zone(zone, 0), 0);
            A.due("the pointer at first", x.zone(zone, 3), 0);
            A.due("the generation at first", x.zone(zone, 4), 0);
        }
        for (int generation = 1; generation <= 20; generation++) {
            send(x, 7, 1);
            A.due("one that waits moves no pointer", x.zone(7, 3), 0);
            x.pass(1);
            A.due("one at work does", x.zone(7, 3), 1);
            x.reset(7);
            A.due("empty again", x.zone(7, 0), 0);
            A.due("the pointer again", x.zone(7, 3), 0);
            A.due("the generation", x.zone(7, 4), generation);
        }
    }

    /** "Open and closed zones are in use (full ones are not, whatever is at work in them)." */
    private static void fullZonesAreNotInUse() {
        AppendZones x = new AppendZones();
        x.set(1, 1);
        x.set(0, 1);
        x.set(2, 4);
        x.setZone(0, false, 1);
        x.setZone(1, false, 1);
        send(x, 0, 1);
        send(x, 1, 1);
        send(x, 2, 1);
        send(x, 3, 1);
        x.pass(1);
        A.due("three are at work", x.count(9), 3);
        A.due("two of them in full zones, so one is in use", x.count(6), 1);
        A.due("it is the third", x.zone(2, 0), 1);
        A.due("there is no room for the fourth", x.zone(3, 0), 0);
        x.finish(2);
        A.due("none is in use", x.count(6), 0);
        A.due("what is at work goes on", x.count(9), 3);
        x.pass(1);
        A.due("the fourth", x.zone(3, 0), 1);
        A.due("open", x.count(5), 1);
        x.pass(9);
        x.close(3);
        A.due("a closed one is not open", x.count(5), 0);
        A.due("a closed one is in use", x.count(6), 1);
    }

    /** "There is a limit of open zones (1 to 8; 2 at first)". */
    private static void eachLimitOfOpenZones() {
        for (int limit = 0; limit <= 8; limit++) {
            AppendZones x = new AppendZones();
            if (limit > 0) {
                x.set(0, limit);
            }
            x.set(1, 8);
            int open = limit == 0 ? 2 : limit;
            for (int zone = 0; zone < 8; zone++) {
                send(x, zone, 1);
                x.pass(5);
                A.due("open with the limit " + limit, x.count(5), Math.min(zone + 1, open));
                A.due("in use", x.count(6), zone + 1);
                A.due("closed to make way", x.count(12), Math.max(0, zone + 1 - open));
            }
        }
    }

    /** "and one of zones in use (1 to 8; 4 at first)". */
    private static void eachLimitOfZonesInUse() {
        for (int limit = 0; limit <= 8; limit++) {
            AppendZones x = new AppendZones();
            if (limit > 0) {
                x.set(1, limit);
            }
            int used = limit == 0 ? 4 : limit;
            for (int zone = 7; zone >= 0; zone--) {
                send(x, zone, 1);
                x.pass(5);
                A.due("in use with the limit " + limit, x.count(6), Math.min(8 - zone, used));
                A.due("waiting for room", x.count(8), Math.max(0, 8 - zone - used));
            }
        }
    }

    // ---- appends

    /** "each with a window (1 to 8; 3 at first): it may have at most so many appends that wait or are at work". */
    private static void eachWindow() {
        for (int window = 0; window <= 8; window++) {
            AppendZones x = new AppendZones();
            x.set(2, 1);
            if (window > 0) {
                x.setWindow(3, window);
            }
            int most = window == 0 ? 3 : window;
            for (int i = 0; i < most; i++) {
                A.due("within the window " + window, x.append(3, 2, i), i);
            }
            A.due("one more", x.append(3, 2, 9), FULL);
            A.due("to another zone", x.append(3, 7, 9), FULL);
            x.pass(1);
            A.due("one is at work", x.writer(3, 2), 1);
            A.due("one more", x.append(3, 2, 9), FULL);
            x.pass(4);
            A.due("one is told", x.writer(3, 3), 1);
            A.due("as many are left", x.writer(3, 1) + x.writer(3, 2), most - 1);
            A.due("one more", x.append(3, 2, 9), most);
            A.due("and another", x.append(3, 2, 9), FULL);
            int left = x.writer(3, 1);
            A.due("those that wait fail", x.finish(2), left);
            for (int i = 0; i < left; i++) {
                A.due("as many more", x.append(3, 7, i), most + 1 + i);
            }
            A.due("and another", x.append(3, 7, 9), FULL);
            A.due("another writer has a window of its own", x.append(2, 7, 9), most + 1 + left);
        }
    }

    /** "An append has a number (from 0, in the order in which appends came ..)". */
    private static void appendsAreNumberedFromZero() {
        AppendZones x = new AppendZones();
        A.due("none at first", x.count(7), 0);
        A.due("the first", x.append(3, 7, 9), 0);
        A.due("one that is refused takes no number", x.append(3, 7, 100), -2);
        A.due("the second", x.append(0, 0, 9), 1);
        x.undo();
        A.due("one that is undone frees its number", x.append(1, 1, 8), 1);
        A.due("it is that of another writer", x.appended(1, 0), 1);
    }

    /** ".. at most 200 ever". */
    private static void atMostTwoHundredAppendsEver() {
        AppendZones x = new AppendZones();
        x.set(2, 4);
        x.setZone(0, false, 16);
        x.setZone(0, true, 1);
        for (int i = 0; i < 200; i++) {
            if (i % 8 == 0 && i > 0) {
                x.pass(9);
            }
            if (i % 16 == 0 && i > 0) {
                x.reset(0);
            }
            A.due("the append " + i, x.append(i % 4, 0, i % 100), i);
        }
        x.keep();
        A.due("the append 201", x.append(0, 1, 1), FULL);
        A.due("nor when all are told", x.pass(9) + x.append(0, 1, 1), 8 + FULL);
        x.reset(0);
        A.due("nor when their zone is reset", x.append(0, 1, 1), FULL);
        A.due("one would be told all the same", x.would(1, 0), 0);
        A.due("in 3 and 1 ticks", x.would(1, 1), 4);
        A.due("that was none", x.count(7), 200);
        x.restore();
        A.due("all were sent when the snapshot was taken", x.append(0, 1, 1), FULL);
        A.due("the place behind the eight that wait, whatever windows there are", x.would(0, 0), 8);
        A.due("the log", x.told(191), 191);
        A.due("no longer", x.told(192), NONE);
    }

    // ---- a tick

    /** "There are channels (1 to 4; 2 at first)." "waits on if there are as many appends at work as channels, or more". */
    private static void eachNumberOfChannels() {
        for (int channels = 0; channels <= 4; channels++) {
            AppendZones x = new AppendZones();
            if (channels > 0) {
                x.set(2, channels);
            }
            int most = channels == 0 ? 2 : channels;
            send(x, 4, 5);
            x.pass(1);
            A.due("at work with " + channels + " channels", x.count(9), most);
            A.due("waiting", x.count(8), 5 - most);
            A.due("the last that began", x.appended(most - 1, 3), 1);
            A.due("the first that waits", x.appended(most, 3), 0);
            if (most > 1) {
                x.set(2, most - 1);
                x.pass(1);
                A.due("one more than channels", x.count(9), most);
                A.due("none began", x.count(8), 5 - most);
            }
        }
    }

    /** "it is due in the tick t + delay of the zone + the rest of its place by 2", "its block is there then". */
    private static void aBlockIsThereInTheTickThatIsDueAndNotBefore() {
        AppendZones x = new AppendZones();
        x.setZone(3, false, 16);
        x.setZone(3, true, 1);
        for (int place = 0; place < 16; place++) {
            send(x, 3, 1);
            int tick = x.count(0);
            x.pass(1);
            A.due("the place " + place + " is at work", x.read(3, place), NOT_POSSIBLE);
            A.due("it is told its place only later", x.appended(place, 4), NONE);
            if (place % 2 == 1) {
                A.due("one tick more at the odd place " + place, x.pass(1), 0);
                A.due("at work still", x.read(3, place), NOT_POSSIBLE);
            }
            A.due("it is told", x.pass(1), 1);
            A.due("its block", x.read(3, place), place);
            A.due("its place", x.appended(place, 4), place);
            A.due("its tick", x.appended(place, 5), tick + 1 + place % 2);
        }
        A.due("the zone is full behind the last place", x.zone(3, 0), 3);
    }

    /** An object of the manner 1 whose turn is that of a zone, all zones empty, and one append waiting for each. */
    private static AppendZones withTheTurn(int turn) {
        AppendZones x = new AppendZones();
        x.set(3, 1);
        x.set(0, 8);
        x.set(1, 8);
        if (turn > 0) {
            x.append(0, turn - 1, 1);
            x.pass(1);
            x.reset(turn - 1);
        }
        A.due("the turn", x.count(13), turn);
        return x;
    }

    /** "by the zones, from the one whose turn it is on (behind 7 comes 0)". */
    private static void behindSevenComesZero() {
        for (int turn = 0; turn < 8; turn++) {
            for (int channels = 1; channels <= 4; channels++) {
                AppendZones x = withTheTurn(turn);
                x.set(2, channels);
                int first = x.count(7);
                for (int zone = 0; zone < 8; zone++) {
                    x.append(zone % 4, zone, zone);
                }
                x.pass(1);
                for (int i = 0; i < 8; i++) {
                    int zone = (turn + i) % 8;
                    A.due("from the zone " + turn + " on: " + zone, x.appended(first + zone, 3), i < channels ? 1 : 0);
                }
                A.due("the turn is behind the first of them", x.count(13), turn == 7 ? 0 : turn + 1);
            }
        }
    }

    /** "it is the turn of the zone behind that of the first append that came to be at work". */
    private static void theTurnGoesRound() {
        AppendZones x = withTheTurn(0);
        for (int i = 0; i < 20; i++) {
            x.append(i % 4, i % 8, i);
            x.pass(6);
            A.due("behind the zone " + i % 8, x.count(13), (i + 1) % 8);
        }
        AppendZones y = withTheTurn(3);
        y.append(0, 3, 1);
        y.append(0, 2, 1);
        y.pass(1);
        A.due("the zone of the turn comes first, the one ahead of it last", y.count(13), 4);
        AppendZones z = withTheTurn(7);
        z.append(0, 6, 1);
        z.append(0, 7, 1);
        z.pass(1);
        A.due("behind the zone 7", z.count(13), 0);
    }

    /** ".. if any did". */
    private static void noTurnWhereNoneBegan() {
        AppendZones x = withTheTurn(5);
        x.pass(9);
        A.due("no append", x.count(13), 5);
        x.set(2, 1);
        x.setZone(1, true, 9);
        x.append(0, 1, 1);
        x.pass(1);
        A.due("behind the zone 1", x.count(13), 2);
        x.append(0, 4, 1);
        x.pass(8);
        A.due("one that waits for a channel", x.count(13), 2);
        x.finish(1);
        x.append(1, 1, 1);
        x.pass(1);
        A.due("one that fails is not the first; the one that begins behind it is", x.count(13), 5);
        A.due("it failed", x.appended(3, 6), 1);
    }

    /** "fails (reason 1) if its zone is full" comes ahead of "waits on if there are as many appends at work". */
    private static void aFullZoneFailsWithoutAChannel() {
        AppendZones x = new AppendZones();
        x.set(2, 1);
        x.setZone(1, false, 1);
        send(x, 1, 1);
        send(x, 0, 1);
        send(x, 1, 1);
        x.pass(1);
        A.due("no channel", x.appended(1, 3), 0);
        A.due("a full zone", x.appended(2, 6), 1);
        send(x, 1, 1);
        A.due("it waits until it is looked at", x.appended(3, 3), 0);
        x.pass(1);
        A.due("and fails then", x.appended(3, 3), 3);
    }

    /** "fails .. if its zone is full": also if it has become so in this step. */
    private static void theLastPlaceOfAZone() {
        AppendZones x = new AppendZones();
        x.set(2, 4);
        x.setZone(6, false, 2);
        send(x, 6, 4);
        x.pass(1);
        A.due("the last place", x.appended(1, 3), 1);
        A.due("behind it", x.appended(2, 6), 1);
        A.due("behind it", x.appended(3, 6), 1);
        A.due("so two failed", x.count(11), 2);
        x.reset(6);
        A.due("those at work failed by the reset", x.appended(1, 6), 2);
        A.due("those before did not", x.appended(2, 6), 1);
        send(x, 6, 1);
        x.pass(1);
        A.due("there is room again", x.appended(4, 3), 1);
    }

    /** "the one whose latest event of these is the earliest one (that an append came to be at work in it, or ..)". */
    private static void theEarliestEventDecides() {
        for (int busiest = 0; busiest < 4; busiest++) {
            AppendZones x = new AppendZones();
            x.set(0, 4);
            x.set(1, 8);
            for (int zone = 3; zone >= 0; zone--) {
                send(x, zone, 1);
                x.pass(9);
            }
            send(x, busiest, 1);
            x.pass(9);
            send(x, 7, 1);
            x.pass(1);
            int due = busiest == 3 ? 2 : 3;
            for (int zone = 0; zone < 4; zone++) {
                A.due("with a later append in " + busiest + ", the zone " + zone, x.zone(zone, 0), zone == due ? 2 : 1);
            }
            A.due("one made way", x.count(12), 1);
        }
        AppendZones x = new AppendZones();
        send(x, 6, 1);
        send(x, 0, 1);
        x.pass(9);
        send(x, 3, 1);
        x.pass(1);
        A.due("of two opened in one tick, the first", x.zone(6, 0), 2);
        x.pass(9);
        send(x, 6, 1);
        x.pass(9);
        send(x, 0, 1);
        x.pass(1);
        A.due("one that was opened again is the latest", x.zone(6, 0), 1);
        A.due("so the zone 3 makes way", x.zone(3, 0), 2);
    }

    /** "(Nothing is closed if the zone cannot be opened all the same.)" */
    private static void nothingIsClosedInVain() {
        AppendZones x = new AppendZones();
        x.set(0, 1);
        x.set(1, 1);
        send(x, 0, 1);
        x.pass(9);
        send(x, 1, 1);
        x.pass(9);
        A.due("the limit of zones in use", x.zone(1, 0), 0);
        A.due("so the other stays open", x.zone(0, 0), 1);
        A.due("none made way", x.count(12), 0);
        x.set(1, 2);
        x.pass(1);
        A.due("one more in use", x.zone(1, 0), 1);
        A.due("the other makes way", x.zone(0, 0), 2);
        A.due("one made way", x.count(12), 1);
        send(x, 0, 1);
        x.pass(1);
        A.due("none without an append at work", x.zone(1, 0), 1);
        A.due("so it stays closed", x.zone(0, 0), 2);
    }

    /** "and if it is empty, only if the zones in use are fewer than their limit". */
    private static void aClosedZoneNeedsNoRoomAmongThoseInUse() {
        AppendZones x = new AppendZones();
        x.set(1, 1);
        send(x, 0, 1);
        x.pass(9);
        x.close(0);
        A.due("none is open", x.count(5), 0);
        send(x, 1, 1);
        send(x, 0, 1);
        x.pass(1);
        A.due("an empty zone is not opened", x.zone(1, 0), 0);
        A.due("a closed one is", x.zone(0, 0), 1);
        x.pass(9);
        x.reset(0);
        A.due("none is in use", x.count(6), 0);
        x.pass(1);
        A.due("now the empty one is opened", x.zone(1, 0), 1);
    }

    // ---- other acts on zones

    /** "To reset a zone: its blocks are gone, its pointer is 0, it is empty, and its generation grows by 1". */
    private static void aResetZoneIsAsEmptyAsAtFirst() {
        AppendZones x = new AppendZones();
        x.setZone(2, false, 3);
        for (int round = 0; round < 5; round++) {
            send(x, 2, 3);
            x.pass(20);
            A.due("full again", x.zone(2, 0), 3);
            A.due("its blocks", x.zone(2, 5), 3);
            A.due("how many it had", x.reset(2), 3);
            A.due("no block", x.zone(2, 5) + x.zone(2, 8), 0);
            A.due("none can be read", x.read(2, 0), NONE);
            A.due("empty", x.zone(2, 0), 0);
            A.due("its generation", x.zone(2, 4), round + 1);
            A.due("a block is still known in its own generation", x.appended(round * 3, 7), round);
        }
    }

    /** "appends at work in it fail (reason 2)", "how many blocks it had (told ones)". */
    private static void aResetOfAFullZoneFailsWhatIsAtWork() {
        AppendZones x = new AppendZones();
        x.setZone(0, false, 2);
        send(x, 0, 2);
        x.pass(3);
        A.due("full", x.zone(0, 0), 3);
        A.due("one is told, one at work", x.zone(0, 5) * 10 + x.zone(0, 6), 11);
        A.due("one block", x.reset(0), 1);
        A.due("the other failed", x.appended(1, 6), 2);
        A.due("it is told never", x.pass(50), 0);
        AppendZones y = new AppendZones();
        send(y, 0, 1);
        y.pass(1);
        y.finish(0);
        A.due("finished, with none told", y.reset(0), 0);
        A.due("the reason", y.appended(0, 6), 2);
    }

    /** "those that wait go on waiting"; "it is full from then on; appends that wait for it fail (reason 3)". */
    private static void whatWaitsOutlivesAReset() {
        AppendZones x = new AppendZones();
        x.set(2, 1);
        send(x, 0, 3);
        x.pass(1);
        x.reset(0);
        A.due("two wait", x.zone(0, 7), 2);
        x.pass(1);
        A.due("the next at the place 0", x.zone(0, 3), 1);
        A.due("one fails by finishing", x.finish(0), 1);
        A.due("the reason", x.appended(2, 6), 3);
        A.due("the one at work goes on", x.pass(9), 1);
        A.due("in the generation 1", x.appended(1, 7), 1);
    }

    /** What a reset or a finish fails has failed at once, not only in the next tick. */
    private static void whatFailedIsCountedAtOnce() {
        AppendZones x = new AppendZones();
        send(x, 0, 5);
        x.pass(1);
        A.due("two at work, three wait", x.count(9) * 10 + x.count(8), 23);
        A.due("no block", x.reset(0), 0);
        A.due("two failed", x.count(11), 2);
        A.due("none at work, three wait", x.count(9) * 10 + x.count(8), 3);
        A.due("the writer 0", x.writer(0, 4) * 10 + x.writer(0, 1), 11);
        x.pass(1);
        A.due("one fails", x.finish(0), 1);
        A.due("three failed", x.count(11), 3);
        A.due("two at work, none waits", x.count(9) * 10 + x.count(8), 20);
        A.due("no block", x.reset(0), 0);
        A.due("all failed", x.count(11), 5);
        A.due("none was told", x.count(10), 0);
        for (int i = 5; i < 50; i++) {
            send(x, 0, 1);
            x.pass(1);
            A.due("no block", x.reset(0), 0);
            A.due("one more failed", x.count(11), i + 1);
        }
    }

    // ---- the last tick, texts, history

    /** "Then the tick, 0 at first, becomes greater by 1"; it does not become more than 9999. */
    private static void theTickEndsAt9999() {
        AppendZones x = new AppendZones();
        A.due("0 at first", x.count(0), 0);
        for (int i = 1; i <= 101; i++) {
            A.due("99 more", x.pass(99), 0);
            A.due("the tick", x.count(0), 99 * i);
        }
        A.due("101 times 99", x.count(0), 9999);
        A.due("one more", x.pass(1), FULL);
        x.keep();
        A.due("by an order", Answers.followed(x, "p1"), FULL);
        A.due("other acts are possible", x.append(0, 0, 1), 0);
        A.due("restore() tells the tick", x.restore(), 9999);
        A.due("undo() leads back", x.undo() + x.undo() + x.undo(), 3 + 2 + 1);
        A.due("the tick", x.count(0), 9900);
        A.due("99 more", x.pass(99), 0);
    }

    /** "There is a text of at most 60 characters, empty at first", "the empty text does" (end too early). */
    private static void textsAreEmptyAtFirstAndAgain() {
        AppendZones x = new AppendZones();
        A.due("empty at first", x.count(15), 0);
        A.due("its fault", x.follow(), -100);
        A.due("empty it", x.clearText(), 0);
        for (int round = 0; round < 3; round++) {
            for (int i = 1; i <= 60; i++) {
                A.due("the character " + i, x.type(i % 3 == 0 ? ';' : i % 3 == 1 ? 'p' : '1'), i);
            }
            A.due("the character 61", x.type('p'), FULL);
            A.due("the text ends too early at its full length", x.follow(), -160);
            A.due("clearText()", x.clearText(), 60);
            A.due("empty again", x.count(15), 0);
            A.due("its fault", x.follow(), -100);
        }
        A.due("nothing of the old text is left", Answers.followed(x, "r"), -101);
    }

    /** "one or more orders with ";" between two": each character that may not stand there, behind each order. */
    private static void everyOrderIsFollowedOnlyBySemicolon() {
        String[] starts = {"r", "f", "p", "r0", "f7", "p9", "2>6=0", "2>6=10", "2>6=99", "p1;", "p1;r", "p1;3"};
        String[] allowed = {"01234567", "01234567", "123456789", ";", ";", ";", ";", ";", ";", "0123rfp", "01234567", ">"};
        for (int s = 0; s < starts.length; s++) {
            for (int c = 0; c < 1024; c++) {
                boolean isAllowed = c < 256 && allowed[s].indexOf(c) >= 0;
                if (!isAllowed) {
                    AppendZones x = new AppendZones();
                    A.due(starts[s] + " and " + c, Answers.followed(x, starts[s] + (char) c), -100 - starts[s].length());
                }
            }
            for (char c : allowed[s].toCharArray()) {
                AppendZones x = new AppendZones();
                Answers.retype(x, starts[s] + c + "x");
                A.due(starts[s] + c + " goes on", x.follow(), -101 - starts[s].length());
            }
        }
        A.due("a digit of another script", Answers.followed(new AppendZones(), "p" + (char) 0x661), -101);
        A.due("a wide digit", Answers.followed(new AppendZones(), "p" + (char) 0xFF11), -101);
    }

    /** "A history of at most 4 states is kept; when one more is recorded, the oldest one is dropped". */
    private static void fourStatesAreKept() {
        for (int acts = 0; acts <= 12; acts++) {
            AppendZones x = new AppendZones();
            for (int i = 1; i <= acts; i++) {
                x.pass(i);
            }
            int kept = Math.min(acts, 4);
            int tick = acts * (acts + 1) / 2;
            A.due("states after " + acts, x.count(14), kept);
            for (int left = kept - 1; left >= 0; left--) {
                A.due("undo()", x.undo(), left);
                tick -= acts - (kept - 1 - left);
                A.due("the tick", x.count(0), tick);
            }
            A.due("no more", x.undo(), NONE);
            A.due("the tick", x.count(0), tick);
        }
    }

    /** Does one of the acts, so that it succeeds on an object of readyForActs. */
    private static int doAct(AppendZones x, int act) {
        switch (act) {
            case 0: return x.set(2, 4);
            case 1: return x.setZone(5, false, 3);
            case 2: return x.setZone(5, true, 5);
            case 3: return x.setWindow(1, 1);
            case 4: return x.append(2, 2, 2);
            case 5: return x.reset(0);
            case 6: return x.finish(0);
            case 7: return x.close(0);
            case 8: return x.pass(2);
            case 9: return x.follow();
            default: return x.restore();
        }
    }

    private static AppendZones readyForActs() {
        AppendZones x = new AppendZones();
        x.append(0, 0, 1);
        x.pass(5);
        x.keep();
        x.pass(1);
        x.pass(1);
        Answers.retype(x, "1>4=7;p1");
        return x;
    }

    /** "Each call of a method that is described as an act, and returns no error and not NONE, records the state". */
    private static void eachActDropsTheOldestState() {
        for (int act = 0; act <= 10; act++) {
            AppendZones x = readyForActs();
            A.due("four states", x.count(14), 4);
            A.dueTrue("the act " + act + " answers no error", doAct(x, act) >= 0);
            A.due("four states still", x.count(14), 4);
            A.due("undo() of the act " + act, x.undo(), 3);
            A.dueTrue("the state is that before the act " + act, Looks.alike(x, readyForActs()));
            A.due("the second act is undone", x.undo() + x.undo() + x.undo(), 3);
            A.due("the first one is not", x.count(7), 1);
            A.due("the tick", x.count(0), 0);
            A.due("no more", x.undo(), NONE);
        }
    }

    /** "There is one snapshot, empty at first." */
    private static void theSnapshotIsEmptyAtFirst() {
        AppendZones x = new AppendZones();
        A.due("none at first", x.restore(), NONE);
        x.pass(7);
        A.due("none by other acts", x.restore(), NONE);
        A.due("keep()", x.keep(), 7);
        A.due("it is no act", x.count(14), 1);
        x.pass(3);
        A.due("restore()", x.restore(), 7);
        A.due("keep() once more", x.keep(), 7);
        x.pass(4);
        A.due("keep() in its place", x.keep(), 11);
        x.undo();
        A.due("the later one alone", x.restore(), 11);
        A.due("it stays", x.restore(), 11);
    }
}
