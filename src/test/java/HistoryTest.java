import java.util.Arrays;

/** Promises 13 to 15: undo, keep, restore. */
public final class HistoryTest {
    private static final Answers A = new Answers("HistoryTest");

    public static void main(String[] args) {
        keepsFourStates();
        undoesEveryAct();
        recordsNoErrors();
        restoresWhatWas();
        restoringIsAnAct();
        theSnapshotIsNoPartOfTheState();
        bringsBackAllOfAState();
        bringsBackAppendsThatOthersReplaced();
        undoesOneActOfTwo();
        bringsBackPlacesGenerationsAndTheLog();
        bringsBackTheOrderOfEvents();
        nothingOfAnUndoneAppendIsLeft();
        A.end();
    }

    private static void keepsFourStates() {
        AppendZones x = new AppendZones();
        A.due("nothing to undo", x.undo(), -5);
        for (int i = 1; i <= 9; i++) {
            x.pass(1);
            A.due("states", x.count(14), Math.min(i, 4));
        }
        for (int left = 3; left >= 0; left--) {
            A.due("undo()", x.undo(), left);
            A.due("the tick", x.count(0), 5 + left);
            A.due("states", x.count(14), left);
        }
        A.due("no more", x.undo(), -5);
        A.due("the tick", x.count(0), 5);
        x.pass(10);
        x.pass(10);
        A.due("undo()", x.undo(), 1);
        A.due("the tick", x.count(0), 15);
        x.pass(7);
        A.due("undo()", x.undo(), 1);
        A.due("undo()", x.undo(), 0);
        A.due("the tick", x.count(0), 5);
    }

    private static AppendZones withATold() {
        AppendZones x = new AppendZones();
        x.append(0, 0, 7);
        x.pass(9);
        return x;
    }

    private static void undoesEveryAct() {
        AppendZones x = withATold();
        x.set(0, 5);
        x.undo();
        A.due("set", x.count(1), 2);
        x.setZone(1, false, 3);
        x.undo();
        A.due("setZone, the capacity", x.zone(1, 1), 8);
        x.setZone(0, true, 9);
        x.undo();
        A.due("setZone, the delay", x.zone(0, 2), 2);
        x.setWindow(2, 8);
        x.undo();
        A.due("setWindow", x.writer(2, 0), 3);
        x.append(0, 0, 8);
        x.undo();
        A.due("append", x.count(7), 1);
        x.reset(0);
        x.undo();
        A.due("reset, the block", x.read(0, 0), 7);
        A.due("reset, the generation", x.zone(0, 4), 0);
        x.finish(0);
        x.undo();
        A.due("finish", x.zone(0, 0), 1);
        x.close(0);
        x.undo();
        A.due("close", x.zone(0, 0), 1);
        x.append(1, 1, 9);
        x.pass(9);
        A.due("undo() of pass", x.undo(), 3);
        A.due("pass, the tick", x.count(0), 9);
        A.due("pass, the append", x.appended(1, 3), 0);
        A.due("pass, the log", x.told(1), -5);
        A.due("pass, the zone", x.zone(1, 0), 0);
        A.due("the same again", x.pass(9), 1);
    }

    private static void recordsNoErrors() {
        AppendZones x = new AppendZones();
        x.set(0, 2);
        x.set(0, 9);
        x.setZone(0, true, 2);
        x.setZone(8, true, 2);
        x.setWindow(0, 3);
        x.append(4, 0, 0);
        x.reset(0);
        x.finish(0);
        x.close(0);
        x.pass(0);
        x.follow();
        x.restore();
        x.undo();
        A.due("none of them", x.count(14), 0);
        x.keep();
        x.type('r');
        x.clearText();
        x.read(0, 0);
        x.toldIn(0);
        x.would(0, 0);
        A.due("nor of these, which are no acts", x.count(14), 0);
        x.pass(1);
        x.pass(2);
        x.pass(3);
        x.pass(4);
        x.append(0, 0, 100);
        x.pass(100);
        A.due("an error drops no state", x.undo() + x.undo() + x.undo() + x.undo(), 6);
        A.due("the tick", x.count(0), 0);
    }

    private static void restoresWhatWas() {
        AppendZones x = withATold();
        A.due("no snapshot", x.restore(), -5);
        A.due("keep()", x.keep(), 9);
        x.reset(0);
        x.pass(30);
        A.due("restore()", x.restore(), 9);
        A.due("the block", x.read(0, 0), 7);
        A.due("the tick", x.count(0), 9);
        x.pass(1);
        A.due("it stays", x.restore(), 9);
        x.pass(5);
        A.due("another takes its place", x.keep(), 14);
        x.pass(5);
        A.due("restore()", x.restore(), 14);
        A.due("restoring what is", x.restore(), 14);
    }

    private static void restoringIsAnAct() {
        AppendZones x = new AppendZones();
        x.keep();
        x.pass(3);
        A.due("one state", x.count(14), 1);
        A.due("restore()", x.restore(), 0);
        A.due("two states", x.count(14), 2);
        A.due("undo()", x.undo(), 1);
        A.due("the tick", x.count(0), 3);
        A.due("undo()", x.undo(), 0);
        A.due("the tick", x.count(0), 0);
        x.restore();
        A.due("though nothing changed", x.count(14), 1);
    }

    private static void theSnapshotIsNoPartOfTheState() {
        AppendZones x = new AppendZones();
        x.pass(1);
        x.keep();
        x.undo();
        A.due("undo leaves the snapshot", x.restore(), 1);
        x.pass(1);
        x.keep();
        x.undo();
        x.undo();
        A.due("undo leaves the snapshot", x.restore(), 2);
    }

    private static void bringsBackAllOfAState() {
        AppendZones x = new AppendZones();
        x.set(3, 1);
        x.set(0, 1);
        x.append(0, 0, 1);
        x.append(1, 3, 2);
        x.append(1, 0, 3);
        x.append(2, 5, 4);
        x.pass(5);
        int before = sum(x);
        x.keep();
        x.pass(50);
        x.reset(3);
        x.set(2, 4);
        x.set(3, 0);
        x.setWindow(3, 1);
        x.setZone(7, true, 9);
        x.setZone(7, false, 1);
        x.append(3, 2, 9);
        x.pass(50);
        A.dueTrue("much has changed", sum(x) != before);
        x.restore();
        A.due("all is as it was", sum(x), before);
        x.pass(50);
        x.undo();
        A.due("all is as it was", sum(x), before);
        x.pass(1);
        x.pass(1);
        AppendZones same = new AppendZones();
        same.set(3, 1);
        same.set(0, 1);
        same.append(0, 0, 1);
        same.append(1, 3, 2);
        same.append(1, 0, 3);
        same.append(2, 5, 4);
        same.pass(7);
        A.due("and goes on as it would have", sum(x), sum(same));
    }

    private static void sendThree(AppendZones x, int first) {
        int z = first % 8;
        x.setZone(z, true, 9);
        x.append(first % 4, z, first);
        x.append(first % 4, (z + 1) % 8, first + 1);
        x.append(first % 4, z, first + 2);
        x.pass(7);
        x.reset(z);
        x.pass(7);
    }

    /** The rows behind a state are written over by others before it comes back. */
    private static void bringsBackAppendsThatOthersReplaced() {
        AppendZones x = new AppendZones();
        AppendZones same = new AppendZones();
        sendThree(x, 1);
        sendThree(same, 1);
        int before = sum(same);
        x.keep();
        AppendZones empty = new AppendZones();
        x.undo();
        x.undo();
        x.undo();
        x.undo();
        sendThree(x, 6);
        x.pass(9);
        x.pass(9);
        A.dueTrue("another state", sum(x) != before && sum(empty) != before);
        x.restore();
        A.due("the one that was kept", sum(x), before);
        x.pass(20);
        same.pass(20);
        A.due("and goes on as it would have", sum(x), sum(same));
    }

    private static void undoesOneActOfTwo() {
        for (int act = 0; act < 9; act++) {
            AppendZones x = withATold();
            x.append(1, 1, 5);
            x.append(1, 0, 6);
            x.pass(1);
            x.pass(1);
            int before = sum(x);
            oneAct(x, act);
            A.dueTrue("the act " + act + " changes much", sum(x) != before);
            A.due("undo() of the act " + act, x.undo(), 3);
            A.due("after the act " + act, sum(x), before);
            A.due("undo() of the tick", x.undo(), 2);
            A.due("the tick", x.count(0), 10);
        }
    }

    private static void oneAct(AppendZones x, int act) {
        int[] answers = {act == 0 ? x.set(3, 1) : 0, act == 1 ? x.setZone(7, false, 1) : 0,
            act == 2 ? x.setZone(7, true, 9) : 0, act == 3 ? x.setWindow(3, 8) : 0, act == 4 ? x.append(2, 2, 2) : 0,
            act == 5 ? x.reset(0) : 0, act == 6 ? x.finish(0) : 0, act == 7 ? x.pass(1) : 0,
            act == 8 ? Answers.followed(x, "p1;p2") : 0};
        A.dueTrue("the act " + act + " is done", answers[act] >= 0);
    }

    /** The same numbers are given to other appends, told at other places, in another generation and order. */
    private static void bringsBackPlacesGenerationsAndTheLog() {
        AppendZones x = new AppendZones();
        x.append(0, 0, 11);
        x.append(0, 0, 12);
        x.append(0, 0, 13);
        x.pass(9);
        x.keep();
        A.due("back to the beginning", x.undo() + x.undo() + x.undo() + x.undo(), 3 + 2 + 1);
        x.append(1, 3, 21);
        x.pass(9);
        x.reset(3);
        x.setZone(5, true, 9);
        x.append(1, 5, 22);
        x.append(1, 3, 23);
        x.pass(30);
        int[] others = {0, 2, 1};
        int[] placesThen = {0, 0, 0};
        int[] generationsThen = {0, 0, 1};
        look(x, others, placesThen, generationsThen);
        A.due("restore()", x.restore(), 9);
        look(x, new int[] {0, 1, 2}, new int[] {0, 1, 2}, new int[] {0, 0, 0});
        for (int place = 0; place < 3; place++) {
            A.due("the block " + place, x.read(0, place), 11 + place);
        }
        A.due("undo() of it", x.undo(), 3);
        look(x, others, placesThen, generationsThen);
    }

    private static void look(AppendZones x, int[] log, int[] places, int[] generations) {
        for (int i = 0; i < 3; i++) {
            A.due("told(" + i + ")", x.told(i), log[i]);
            A.due("the place of " + i, x.appended(i, 4), places[i]);
            A.due("the generation of " + i, x.appended(i, 7), generations[i]);
        }
        A.due("no other is told", x.told(3), -5);
    }

    private static void bringsBackTheOrderOfEvents() {
        for (int undone = 0; undone < 2; undone++) {
            AppendZones x = new AppendZones();
            x.append(0, 5, 1);
            x.append(0, 3, 2);
            x.pass(20);
            x.append(0, 5, 3);
            x.pass(20);
            if (undone == 1) {
                x.undo();
                x.undo();
            }
            x.append(0, 1, 4);
            x.pass(1);
            A.due("the zone 5 is closed if its later append is undone", x.zone(5, 0), 1 + undone);
            A.due("otherwise the zone 3", x.zone(3, 0), 2 - undone);
        }
    }

    private static void nothingOfAnUndoneAppendIsLeft() {
        AppendZones x = withATold();
        x.append(1, 0, 5);
        x.undo();
        A.due("none waits", x.zone(0, 7) + x.count(8) + x.writer(1, 1), 0);
        A.due("none fails", x.finish(0), 0);
        A.due("none has failed", x.count(11), 0);
        AppendZones y = new AppendZones();
        y.append(0, 5, 1);
        y.append(0, 3, 2);
        y.pass(20);
        y.keep();
        y.append(0, 3, 3);
        y.append(0, 5, 4);
        y.pass(1);
        A.due("two are at work", y.count(9), 2);
        y.restore();
        A.due("none is", y.count(9) + y.zone(5, 6) + y.zone(3, 6), 0);
        y.append(1, 1, 5);
        y.pass(1);
        A.due("so the zone 5 makes way", y.zone(5, 0), 2);
        A.due("and can be finished", y.finish(5), 0);
    }

    private static int sum(AppendZones x) {
        return Arrays.hashCode(Looks.at(x));
    }
}
