/** Promise 9, pass, and what the document says of a tick. */
public final class TicksTest {
    private static final Answers A = new Answers("TicksTest");

    public static void main(String[] args) {
        passes();
        endsAtTheTick9999();
        tellsInTheTickThatIsDue();
        tellsByAscendingNumbers();
        keepsToTheChannels();
        failsAtAFullZone();
        fillsAZone();
        closesTheOneOfTheEarliestEvent();
        anAppendIsAnEventToo();
        closesNoneWithAnAppendAtWork();
        opensAClosedZoneWhateverIsInUse();
        looksByNumbers();
        looksByZones();
        theTurnIsThatBehindTheFirst();
        theTurnIsOfThoseThatBegan();
        theOrderIsFixedAtTheBeginning();
        fewerChannelsThanAreAtWork();
        A.end();
    }

    private static void passes() {
        AppendZones x = new AppendZones();
        A.due("0 ticks", x.pass(0), -2);
        A.due("100 ticks", x.pass(100), -2);
        A.due("-1 ticks", x.pass(-1), -2);
        A.due("far too many", x.pass(Integer.MAX_VALUE), -2);
        A.due("1 tick", x.pass(1), 0);
        A.due("99 ticks", x.pass(99), 0);
        A.due("the tick", x.count(0), 100);
        A.due("both are recorded", x.count(14), 2);
        x.append(0, 0, 1);
        x.append(0, 0, 2);
        A.due("two are told", x.pass(99), 2);
        A.due("none is told", x.pass(99), 0);
    }

    private static void endsAtTheTick9999() {
        AppendZones x = new AppendZones();
        for (int i = 0; i < 100; i++) {
            A.due("99 more", x.pass(99), 0);
        }
        A.due("98 more", x.pass(98), 0);
        A.due("the tick", x.count(0), 9998);
        x.append(0, 0, 1);
        A.due("two more are too many", x.pass(2), -3);
        A.due("a bad value comes first", x.pass(100), -2);
        A.due("one more", x.pass(1), 0);
        A.due("the tick", x.count(0), 9999);
        A.due("no more", x.pass(1), -3);
        A.due("nor by an order", Answers.followed(x, "p1"), -3);
        A.due("it is at work", x.appended(0, 3), 1);
    }

    private static void tellsInTheTickThatIsDue() {
        for (int zone = 0; zone < 8; zone++) {
            AppendZones x = new AppendZones();
            int delay = 2 + zone % 3;
            x.append(0, zone, 7);
            x.append(1, zone, 8);
            A.due("the first tick tells none", x.pass(1), 0);
            for (int t = 1; t < delay; t++) {
                A.due("the tick " + t + " tells none", x.pass(1), 0);
                A.due("at work", x.appended(0, 3), 1);
            }
            A.due("the first is told", x.pass(1), 1);
            A.due("its state", x.appended(0, 3), 2);
            A.due("its tick", x.appended(0, 5), delay);
            A.due("its place", x.appended(0, 4), 0);
            A.due("the second is at work", x.appended(1, 3), 1);
            A.due("its place is not told", x.appended(1, 4), -5);
            A.due("the second is told", x.pass(1), 1);
            A.due("its tick", x.appended(1, 5), delay + 1);
            A.due("its place", x.appended(1, 4), 1);
        }
    }

    private static void tellsByAscendingNumbers() {
        AppendZones x = new AppendZones();
        x.set(2, 4);
        x.set(0, 4);
        x.setZone(2, true, 1);
        x.append(0, 1, 1);
        x.append(1, 0, 2);
        x.append(2, 0, 3);
        x.append(3, 2, 4);
        x.pass(20);
        int[] due = {3, 1, 0, 2};
        for (int rank = 0; rank < 4; rank++) {
            A.due("told(" + rank + ")", x.told(rank), due[rank]);
        }
        A.due("0 and 2 in one tick", x.appended(0, 5) - x.appended(2, 5), 0);
    }

    private static void keepsToTheChannels() {
        for (int channels = 1; channels <= 4; channels++) {
            AppendZones x = new AppendZones();
            x.set(2, channels);
            x.setWindow(0, 8);
            for (int i = 0; i < 6; i++) {
                x.append(0, 0, i);
            }
            x.pass(1);
            A.due("at work", x.count(9), channels);
            A.due("waiting", x.count(8), 6 - channels);
        }
        AppendZones x = new AppendZones();
        x.set(2, 1);
        x.append(0, 0, 1);
        x.append(0, 0, 2);
        A.due("the second in 2 + 3 + 1 ticks", x.toldIn(1), 6);
        x.pass(3);
        A.due("a channel is free in the tick that tells", x.appended(1, 3), 1);
    }

    private static void failsAtAFullZone() {
        AppendZones x = new AppendZones();
        x.set(2, 1);
        x.setZone(0, false, 1);
        x.append(0, 0, 1);
        x.append(0, 0, 2);
        x.append(1, 0, 3);
        x.pass(1);
        A.due("they fail in the same tick, without a channel", x.appended(1, 3), 3);
        A.due("why", x.appended(1, 6), 1);
        A.due("why", x.appended(2, 6), 1);
        A.due("the writer 0", x.writer(0, 4), 1);
        A.due("failed so far", x.count(11), 2);
        A.due("the first is at work for no reason", x.appended(0, 6), -5);
    }

    private static void fillsAZone() {
        AppendZones x = new AppendZones();
        x.setZone(0, false, 2);
        x.append(0, 0, 1);
        x.pass(1);
        A.due("open", x.zone(0, 0), 1);
        x.append(0, 0, 2);
        x.pass(1);
        A.due("full at once", x.zone(0, 0), 3);
        A.due("none is open", x.count(5), 0);
        A.due("none is in use", x.count(6), 0);
        A.due("its pointer", x.zone(0, 3), 2);
        A.due("both go on", x.pass(9), 2);
        A.due("not of the kind that is closed", x.close(0), -4);
        AppendZones y = new AppendZones();
        y.set(0, 1);
        y.setZone(0, false, 1);
        y.append(0, 0, 1);
        y.append(0, 1, 2);
        y.pass(1);
        A.due("a full one is not open", y.zone(1, 0), 1);
        A.due("nothing was closed", y.count(12), 0);
    }

    private static void closesTheOneOfTheEarliestEvent() {
        AppendZones x = new AppendZones();
        x.append(0, 5, 1);
        x.append(0, 3, 2);
        x.pass(20);
        x.append(0, 1, 3);
        x.pass(1);
        A.due("the one that was opened first is closed", x.zone(5, 0), 2);
        A.due("the other stays open", x.zone(3, 0), 1);
        A.due("the new one is open", x.zone(1, 0), 1);
        A.due("one made way", x.count(12), 1);
        x.pass(20);
        x.append(0, 5, 4);
        x.pass(1);
        A.due("now the other is closed", x.zone(3, 0), 2);
        A.due("the closed one is open again", x.zone(5, 0), 1);
        A.due("it goes on behind its blocks", x.zone(5, 3), 2);
        A.due("two made way", x.count(12), 2);
        A.due("three are in use", x.count(6), 3);
    }

    private static void anAppendIsAnEventToo() {
        AppendZones x = new AppendZones();
        x.append(0, 5, 1);
        x.append(0, 3, 2);
        x.pass(20);
        x.append(0, 5, 3);
        x.pass(20);
        x.append(0, 1, 4);
        x.pass(1);
        A.due("the one without the later append is closed", x.zone(3, 0), 2);
        A.due("the one that was opened first stays open", x.zone(5, 0), 1);
        AppendZones y = new AppendZones();
        y.append(0, 5, 1);
        y.append(0, 3, 2);
        y.append(0, 5, 3);
        y.append(1, 3, 4);
        y.append(1, 5, 5);
        y.pass(40);
        y.append(0, 0, 6);
        y.pass(1);
        A.due("the order of the events counts, not the tick", y.zone(3, 0), 2);
    }

    private static void closesNoneWithAnAppendAtWork() {
        AppendZones x = new AppendZones();
        x.set(2, 4);
        x.setZone(0, true, 9);
        x.append(0, 0, 1);
        x.append(0, 3, 2);
        x.append(0, 1, 3);
        x.pass(1);
        A.due("both are at work", x.count(9), 2);
        A.due("the third waits", x.appended(2, 3), 0);
        x.pass(1);
        A.due("still", x.appended(2, 3), 0);
        x.pass(1);
        A.due("the zone 3 is closed in the tick that tells", x.zone(3, 0), 2);
        A.due("the earlier one has one at work", x.zone(0, 0), 1);
        A.due("the third is at work", x.appended(2, 3), 1);
    }

    private static void opensAClosedZoneWhateverIsInUse() {
        AppendZones x = new AppendZones();
        x.set(1, 2);
        x.set(0, 1);
        x.append(0, 0, 1);
        x.append(0, 3, 2);
        x.pass(20);
        A.due("the zone 0 is closed", x.zone(0, 0), 2);
        A.due("two are in use", x.count(6), 2);
        x.append(0, 6, 3);
        x.append(0, 0, 4);
        x.pass(1);
        A.due("an empty one can't be opened", x.zone(6, 0), 0);
        A.due("a closed one can", x.zone(0, 0), 1);
        A.due("the other made way", x.zone(3, 0), 2);
        x.pass(20);
        A.due("nothing was closed in vain", x.count(12), 2);
        x.finish(3);
        x.pass(1);
        A.due("a finished one is not in use", x.zone(6, 0), 1);
        A.due("three made way", x.count(12), 3);
    }

    private static void looksByNumbers() {
        AppendZones x = new AppendZones();
        x.append(0, 7, 1);
        x.append(0, 6, 2);
        x.append(0, 0, 3);
        x.pass(1);
        A.due("the first", x.appended(0, 3), 1);
        A.due("the second", x.appended(1, 3), 1);
        A.due("the third waits", x.appended(2, 3), 0);
        A.due("the turn does not change", x.count(13), 0);
        AppendZones y = new AppendZones();
        y.set(0, 1);
        y.append(0, 0, 1);
        y.append(0, 1, 2);
        y.append(0, 0, 3);
        y.pass(1);
        A.due("one that can't begin lets others begin", y.appended(2, 3), 1);
        A.due("and waits on", y.appended(1, 3), 0);
    }

    private static void looksByZones() {
        AppendZones x = new AppendZones();
        x.set(3, 1);
        x.append(0, 7, 1);
        x.append(0, 6, 2);
        x.append(0, 2, 3);
        x.append(1, 2, 4);
        x.pass(1);
        A.due("those of the zone 2 first", x.appended(2, 3), 1);
        A.due("both of them", x.appended(3, 3), 1);
        A.due("by ascending numbers", x.zone(2, 3), 2);
        A.due("the zone 7 waits", x.appended(0, 3), 0);
        A.due("the turn", x.count(13), 3);
        x.append(2, 1, 5);
        x.pass(4);
        A.due("then the zone 6", x.appended(1, 3), 1);
        A.due("the turn", x.count(13), 7);
        A.due("the place 1 is told later", x.appended(3, 3), 1);
        x.pass(1);
        A.due("then the zone 7", x.appended(0, 3), 1);
        A.due("behind 7 comes 0", x.count(13), 0);
        A.due("the zone 1 last", x.appended(4, 3), 0);
        A.due("places by ascending numbers", x.read(2, 0) * 10 + x.read(2, 1), 34);
    }

    private static void theTurnIsThatBehindTheFirst() {
        AppendZones x = new AppendZones();
        x.set(3, 1);
        x.append(0, 4, 1);
        x.append(0, 5, 2);
        x.pass(1);
        A.due("two began", x.count(9), 2);
        A.due("behind the first of them", x.count(13), 5);
        x.pass(20);
        A.due("no turn in ticks in which none began", x.count(13), 5);
        x.set(3, 0);
        x.append(0, 2, 3);
        x.pass(1);
        A.due("nor in the manner 0", x.count(13), 5);
    }

    private static void theTurnIsOfThoseThatBegan() {
        AppendZones x = new AppendZones();
        x.append(0, 1, 1);
        x.pass(9);
        x.finish(1);
        x.set(3, 1);
        x.append(0, 1, 2);
        x.append(0, 4, 3);
        x.pass(1);
        A.due("not of one that failed", x.count(13), 5);
        AppendZones y = new AppendZones();
        y.set(3, 1);
        y.set(2, 1);
        y.append(0, 2, 1);
        y.append(0, 5, 2);
        y.pass(1);
        A.due("behind the zone 2", y.count(13), 3);
        y.pass(1);
        A.due("not of one that waits for a channel", y.count(13), 3);
        y.pass(9);
        A.due("behind the zone 5", y.count(13), 6);
        y.set(1, 2);
        y.append(0, 7, 3);
        y.pass(1);
        A.due("not of one that waits for a zone", y.count(13), 6);
    }

    private static void theOrderIsFixedAtTheBeginning() {
        AppendZones x = new AppendZones();
        x.set(3, 1);
        x.set(2, 4);
        x.set(0, 8);
        x.set(1, 8);
        x.append(0, 0, 1);
        x.append(0, 1, 2);
        x.append(1, 0, 3);
        x.append(1, 7, 4);
        x.append(2, 2, 5);
        x.pass(1);
        A.due("0, 0, 1 and 2 began", x.zone(0, 3) * 100 + x.zone(1, 3) * 10 + x.zone(2, 3), 211);
        A.due("the zone 7 waits", x.zone(7, 7), 1);
        A.due("the turn", x.count(13), 1);
    }

    private static void fewerChannelsThanAreAtWork() {
        AppendZones x = new AppendZones();
        x.set(2, 4);
        for (int i = 0; i < 3; i++) {
            x.append(0, 0, i);
            x.append(1, 0, i);
        }
        x.pass(1);
        A.due("set(2, 1)", x.set(2, 1), 4);
        A.due("four are at work still", x.count(9), 4);
        A.due("two are told", x.pass(2), 2);
        A.due("two are at work: none begins", x.count(9), 2);
        A.due("two wait", x.count(8), 2);
        A.due("two are told", x.pass(1), 2);
        A.due("one begins", x.count(9), 1);
    }
}
