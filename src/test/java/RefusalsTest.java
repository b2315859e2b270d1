import java.util.function.Supplier;

/**
 * Calls that answer an error or NONE: that it is the error which the order of the checks asks for, and that
 * nothing is changed by it, neither the state nor the text, the history or the snapshot.
 */
public final class RefusalsTest {
    private static final Answers A = new Answers("RefusalsTest");
    private static final int UNKNOWN = -1;
    private static final int BAD_VALUE = -2;
    private static final int FULL = -3;
    private static final int NOT_POSSIBLE = -4;
    private static final int NONE = -5;

    private interface Call {
        int on(AppendZones x);
    }

    public static void main(String[] args) {
        refusalsOfSet();
        refusalsOfSetZone();
        refusalsOfSetWindow();
        refusalsOfAppend();
        refusalsOfTheAppend201();
        refusalsOfReset();
        refusalsOfFinish();
        refusalsOfClose();
        refusalsOfPass();
        refusalsOfFollow();
        theFaultComesBeforeTheOrders();
        refusalsOfType();
        refusalsOfUndoAndRestore();
        refusalsOfQuestions();
        A.end();
    }

    /** Makes an object twice; one of the two is refused the call, and both must be alike behind it. */
    private static void refused(String what, Supplier<AppendZones> made, int due, Call call) {
        AppendZones x = made.get();
        AppendZones untouched = made.get();
        A.due(what, call.on(x), due);
        A.dueTrue(what + " changes nothing", Looks.alikeToTheEnd(x, untouched));
    }

    /**
     * The zones: 0 open with two appends at work, 1 open without one, 2 closed, 3 and 7 empty, 4 full by its
     * only block, 5 finished, 6 empty with an append that waits for it. The writer 3 has a window of one, which
     * that append fills; all channels are taken. The history is full, and there is a snapshot.
     */
    private static AppendZones busy() {
        return busyWith("p1");
    }

    private static AppendZones busyWith(String text) {
        AppendZones x = new AppendZones();
        x.setZone(4, false, 1);
        x.append(0, 4, 10);
        x.append(0, 5, 11);
        x.pass(9);
        x.finish(5);
        x.append(1, 2, 12);
        x.append(1, 1, 13);
        x.pass(9);
        x.close(2);
        x.setZone(0, true, 9);
        x.append(0, 0, 14);
        x.append(0, 0, 15);
        x.setWindow(3, 1);
        x.append(3, 6, 16);
        x.pass(1);
        x.keep();
        x.pass(1);
        Answers.retype(x, text);
        return x;
    }

    private static void refusedWhenBusy(String what, int due, Call call) {
        refused(what, RefusalsTest::busy, due, call);
    }

    private static void refusalsOfSet() {
        A.due("two are open", busy().count(5), 2);
        A.due("three are in use", busy().count(6), 3);
        refusedWhenBusy("no such number", BAD_VALUE, x -> x.set(-1, 1));
        refusedWhenBusy("no such number", BAD_VALUE, x -> x.set(4, 1));
        refusedWhenBusy("the least less one, ahead of more that are open", BAD_VALUE, x -> x.set(0, 0));
        refusedWhenBusy("the most and one", BAD_VALUE, x -> x.set(0, 9));
        refusedWhenBusy("the least less one, ahead of more that are in use", BAD_VALUE, x -> x.set(1, 0));
        refusedWhenBusy("the most and one", BAD_VALUE, x -> x.set(1, 9));
        refusedWhenBusy("no channel", BAD_VALUE, x -> x.set(2, 0));
        refusedWhenBusy("five channels", BAD_VALUE, x -> x.set(2, 5));
        refusedWhenBusy("the manner -1", BAD_VALUE, x -> x.set(3, -1));
        refusedWhenBusy("the manner 2", BAD_VALUE, x -> x.set(3, 2));
        refusedWhenBusy("more are open", NOT_POSSIBLE, x -> x.set(0, 1));
        refusedWhenBusy("more are in use", NOT_POSSIBLE, x -> x.set(1, 2));
        refusedWhenBusy("many more are in use", NOT_POSSIBLE, x -> x.set(1, 1));
        refusedWhenBusy("as many are open, and it is so already", NONE, x -> x.set(0, 2));
        refusedWhenBusy("it is so already", NONE, x -> x.set(1, 4));
        refusedWhenBusy("it is so already", NONE, x -> x.set(2, 2));
        refusedWhenBusy("it is so already", NONE, x -> x.set(3, 0));
        A.due("as many are in use", busy().set(1, 3), 4);
        A.due("fewer are open", busy().set(0, 3), 2);
        A.due("fewer channels than appends at work are no error", busy().set(2, 1), 2);
    }

    private static void refusalsOfSetZone() {
        refusedWhenBusy("UNKNOWN ahead of BAD_VALUE", UNKNOWN, x -> x.setZone(8, true, 0));
        refusedWhenBusy("UNKNOWN ahead of BAD_VALUE", UNKNOWN, x -> x.setZone(-1, false, 17));
        refusedWhenBusy("UNKNOWN", UNKNOWN, x -> x.setZone(8, false, 8));
        refusedWhenBusy("a delay of 0", BAD_VALUE, x -> x.setZone(3, true, 0));
        refusedWhenBusy("a delay of 10", BAD_VALUE, x -> x.setZone(0, true, 10));
        refusedWhenBusy("a capacity of 0", BAD_VALUE, x -> x.setZone(3, false, 0));
        refusedWhenBusy("a capacity of 17", BAD_VALUE, x -> x.setZone(3, false, 17));
        for (int zone : new int[] {0, 1, 2, 4, 5}) {
            refusedWhenBusy("BAD_VALUE ahead of NOT_POSSIBLE", BAD_VALUE, x -> x.setZone(zone, false, 17));
            refusedWhenBusy("BAD_VALUE ahead of NOT_POSSIBLE", BAD_VALUE, x -> x.setZone(zone, false, 0));
            refusedWhenBusy("the zone " + zone + " is not empty", NOT_POSSIBLE, x -> x.setZone(zone, false, 9));
            int capacity = busy().zone(zone, 1);
            refusedWhenBusy("NOT_POSSIBLE ahead of NONE", NOT_POSSIBLE, x -> x.setZone(zone, false, capacity));
        }
        for (int zone = 0; zone < 8; zone++) {
            int asked = zone;
            int delay = busy().zone(zone, 2);
            refusedWhenBusy("the delay is so already", NONE, x -> x.setZone(asked, true, delay));
            A.due("another delay at any time", busy().setZone(zone, true, 7), delay);
        }
        refusedWhenBusy("the capacity is so already", NONE, x -> x.setZone(3, false, 8));
        A.due("a zone for which one waits is empty", busy().setZone(6, false, 9), 8);
    }

    private static void refusalsOfSetWindow() {
        refusedWhenBusy("UNKNOWN ahead of BAD_VALUE", UNKNOWN, x -> x.setWindow(4, 0));
        refusedWhenBusy("UNKNOWN ahead of BAD_VALUE", UNKNOWN, x -> x.setWindow(-1, 9));
        refusedWhenBusy("UNKNOWN", UNKNOWN, x -> x.setWindow(4, 3));
        refusedWhenBusy("a window of 0", BAD_VALUE, x -> x.setWindow(0, 0));
        refusedWhenBusy("a window of 9", BAD_VALUE, x -> x.setWindow(0, 9));
        refusedWhenBusy("it is so already", NONE, x -> x.setWindow(0, 3));
        refusedWhenBusy("it is so already, and filled", NONE, x -> x.setWindow(3, 1));
        A.due("a smaller one than is filled", busy().setWindow(0, 1), 3);
    }

    private static void refusalsOfAppend() {
        refusedWhenBusy("an unknown writer", UNKNOWN, x -> x.append(4, 0, 5));
        refusedWhenBusy("an unknown zone", UNKNOWN, x -> x.append(0, 8, 5));
        refusedWhenBusy("both", UNKNOWN, x -> x.append(-1, -1, 5));
        refusedWhenBusy("UNKNOWN ahead of BAD_VALUE", UNKNOWN, x -> x.append(4, 0, 100));
        refusedWhenBusy("UNKNOWN ahead of BAD_VALUE", UNKNOWN, x -> x.append(0, 8, -1));
        refusedWhenBusy("UNKNOWN ahead of FULL", UNKNOWN, x -> x.append(3, 8, 5));
        refusedWhenBusy("UNKNOWN ahead of both", UNKNOWN, x -> x.append(3, -1, 100));
        refusedWhenBusy("the value -1", BAD_VALUE, x -> x.append(0, 0, -1));
        refusedWhenBusy("the value 100", BAD_VALUE, x -> x.append(0, 0, 100));
        refusedWhenBusy("BAD_VALUE ahead of FULL", BAD_VALUE, x -> x.append(3, 0, 100));
        refusedWhenBusy("as many as the window", FULL, x -> x.append(3, 0, 5));
        Supplier<AppendZones> smaller = () -> {
            AppendZones x = busy();
            x.setWindow(0, 1);
            return x;
        };
        refused("more than the window", smaller, FULL, x -> x.append(0, 0, 5));
        A.due("one fewer than the window", busy().append(0, 0, 5), 7);
        A.due("to a full zone all the same", busy().append(1, 4, 5), 7);
    }

    private static AppendZones withAppends(int most) {
        AppendZones x = new AppendZones();
        x.set(2, 4);
        x.setZone(0, true, 1);
        x.setZone(0, false, 16);
        for (int w = 0; w < 4; w++) {
            x.setWindow(w, 8);
        }
        for (int i = 0; i < most; i++) {
            if (i > 0 && i % 16 == 0) {
                x.pass(9);
                x.reset(0);
            }
            x.append(i % 4, 0, i % 100);
        }
        return x;
    }

    private static void refusalsOfTheAppend201() {
        Supplier<AppendZones> twoHundred = () -> withAppends(200);
        A.due("the append 200", withAppends(199).append(0, 0, 5), 199);
        refused("the append 201", twoHundred, FULL, x -> x.append(0, 0, 5));
        refused("BAD_VALUE ahead of FULL", twoHundred, BAD_VALUE, x -> x.append(0, 0, 100));
        refused("UNKNOWN ahead of FULL", twoHundred, UNKNOWN, x -> x.append(0, 8, 5));
        Supplier<AppendZones> withText = () -> {
            AppendZones x = withAppends(199);
            Answers.retype(x, "p9;r0;0>0=5;0>0=6");
            return x;
        };
        refused("the append 201 of a text", withText, FULL, x -> x.follow());
        Supplier<AppendZones> withShorterText = () -> {
            AppendZones x = withAppends(199);
            Answers.retype(x, "p9;r0;0>0=5");
            return x;
        };
        A.due("the append 200 of a text", withShorterText.get().follow(), 3);
    }

    private static void refusalsOfReset() {
        refusedWhenBusy("UNKNOWN", UNKNOWN, x -> x.reset(-1));
        refusedWhenBusy("UNKNOWN", UNKNOWN, x -> x.reset(8));
        refusedWhenBusy("empty", NONE, x -> x.reset(3));
        refusedWhenBusy("empty, though one waits for it", NONE, x -> x.reset(6));
        refused("empty at first", AppendZones::new, NONE, x -> x.reset(0));
        Supplier<AppendZones> again = () -> {
            AppendZones x = busy();
            x.reset(0);
            return x;
        };
        refused("empty again", again, NONE, x -> x.reset(0));
        int[] blocks = {0, 1, 1, NONE, 1, 1, NONE, NONE};
        for (int zone = 0; zone < 8; zone++) {
            A.due("reset(" + zone + ")", busy().reset(zone), blocks[zone]);
        }
    }

    private static void refusalsOfFinish() {
        refusedWhenBusy("UNKNOWN", UNKNOWN, x -> x.finish(-1));
        refusedWhenBusy("UNKNOWN", UNKNOWN, x -> x.finish(8));
        refusedWhenBusy("empty", NOT_POSSIBLE, x -> x.finish(3));
        refusedWhenBusy("empty, though one waits for it", NOT_POSSIBLE, x -> x.finish(6));
        refusedWhenBusy("full by its only block", NONE, x -> x.finish(4));
        refusedWhenBusy("finished already", NONE, x -> x.finish(5));
        Supplier<AppendZones> waitedFor = () -> {
            AppendZones x = busy();
            x.append(1, 5, 17);
            return x;
        };
        refused("full already, and what waits for it waits on", waitedFor, NONE, x -> x.finish(5));
        refused("empty at first", AppendZones::new, NOT_POSSIBLE, x -> x.finish(7));
        for (int zone = 0; zone < 3; zone++) {
            A.due("finish(" + zone + ")", busy().finish(zone), 0);
        }
    }

    private static void refusalsOfClose() {
        refusedWhenBusy("UNKNOWN", UNKNOWN, x -> x.close(-1));
        refusedWhenBusy("UNKNOWN", UNKNOWN, x -> x.close(8));
        refusedWhenBusy("open with two at work", NOT_POSSIBLE, x -> x.close(0));
        refusedWhenBusy("closed", NOT_POSSIBLE, x -> x.close(2));
        refusedWhenBusy("empty", NOT_POSSIBLE, x -> x.close(3));
        refusedWhenBusy("full", NOT_POSSIBLE, x -> x.close(4));
        refusedWhenBusy("finished", NOT_POSSIBLE, x -> x.close(5));
        refusedWhenBusy("empty, though one waits for it", NOT_POSSIBLE, x -> x.close(6));
        A.due("open, none at work", busy().close(1), 1);
    }

    /** An object at a tick from 9900 on, with an append at work. */
    private static AppendZones atTick(int tick) {
        AppendZones x = new AppendZones();
        for (int i = 0; i < 100; i++) {
            x.pass(99);
        }
        x.append(0, 0, 5);
        x.pass(1);
        if (tick > 9901) {
            x.pass(tick - 9901);
        }
        return x;
    }

    private static void refusalsOfPass() {
        refusedWhenBusy("no tick", BAD_VALUE, x -> x.pass(0));
        refusedWhenBusy("100 ticks", BAD_VALUE, x -> x.pass(100));
        refusedWhenBusy("-1 ticks", BAD_VALUE, x -> x.pass(-1));
        Supplier<AppendZones> early = () -> atTick(9901);
        refused("to the tick 10000", early, FULL, x -> x.pass(99));
        A.due("to the tick 9999", early.get().pass(98), 1);
        Supplier<AppendZones> last = () -> atTick(9999);
        refused("behind the tick 9999", last, FULL, x -> x.pass(1));
        refused("far behind the tick 9999", last, FULL, x -> x.pass(99));
        refused("BAD_VALUE ahead of FULL", last, BAD_VALUE, x -> x.pass(100));
        refused("BAD_VALUE ahead of FULL", last, BAD_VALUE, x -> x.pass(0));
        Supplier<AppendZones> nearly = () -> atTick(9998);
        refused("two ticks at 9998", nearly, FULL, x -> x.pass(2));
        A.due("one tick at 9998", nearly.get().pass(1), 0);
        Supplier<AppendZones> withText = () -> {
            AppendZones x = atTick(9998);
            Answers.retype(x, "1>1=5;p1;p1");
            return x;
        };
        refused("the second tick of a text at 9998", withText, FULL, x -> x.follow());
        AppendZones undone = atTick(9999);
        undone.undo();
        A.due("undo() goes back ahead of the last tick", undone.pass(2), 1);
    }

    private static void refusedText(String text, int due) {
        refused("follow() of \"" + text + "\"", () -> busyWith(text), due, x -> x.follow());
    }

    private static void refusalsOfFollow() {
        refusedText("", -100);
        refusedText(";", -100);
        refusedText("p1;", -103);
        refusedText("p1;x", -103);
        refusedText("p1;r1;f1;0>1=", -113);
        refusedText("f3", NOT_POSSIBLE);
        refusedText("p1;f7", NOT_POSSIBLE);
        refusedText("3>0=5", FULL);
        refusedText("p9;p9;f2;r0;3>0=5;3>0=5", FULL);
        refusedText("r1;f1", NOT_POSSIBLE);
        refusedText("f2;r2;1>2=3;p1;r2;f2", NOT_POSSIBLE);
        refusedText("f3;3>0=5", NOT_POSSIBLE);
        refusedText("3>0=5;f3", FULL);
        A.due("in its turn there is room", Answers.followed(busy(), "p9;p9;p9;3>0=5"), 4);
        A.due("in its turn the zone is not empty", Answers.followed(busy(), "r0;p1;f6"), 3);
    }

    private static void theFaultComesBeforeTheOrders() {
        refusedText("f3;3>0=5;", -109);
        refusedText("3>0=5;p0", -107);
        refusedText("f3;r8", -104);
        refusedText("3>0=5;3>0=100", -112);
    }

    private static void refusalsOfType() {
        String sixty = "p1;p1;p1;p1;p1;p1;p1;p1;p1;p1;p1;p1;p1;p1;p1;p1;p1;p1;p1;p1x";
        Supplier<AppendZones> full = () -> busyWith(sixty);
        A.due("its length", full.get().count(15), 60);
        refused("the character 61", full, FULL, x -> x.type('p'));
        refused("the character 61, which is as the last one", full, FULL, x -> x.type('x'));
        Supplier<AppendZones> nearly = () -> busyWith(sixty.substring(0, 59));
        A.due("the character 60", nearly.get().type(';'), 60);
    }

    private static void refusalsOfUndoAndRestore() {
        refused("no state at first", AppendZones::new, NONE, x -> x.undo());
        refused("no snapshot at first", AppendZones::new, NONE, x -> x.restore());
        Supplier<AppendZones> usedUp = () -> {
            AppendZones x = busy();
            for (int i = 0; i < 4; i++) {
                x.undo();
            }
            return x;
        };
        refused("no state any more", usedUp, NONE, x -> x.undo());
        Supplier<AppendZones> withoutSnapshot = () -> {
            AppendZones x = new AppendZones();
            x.append(0, 0, 1);
            x.pass(9);
            return x;
        };
        refused("no snapshot", withoutSnapshot, NONE, x -> x.restore());
    }

    private static void refusalsOfQuestions() {
        refusedWhenBusy("read, UNKNOWN ahead of BAD_VALUE", UNKNOWN, x -> x.read(8, -1));
        refusedWhenBusy("read, BAD_VALUE", BAD_VALUE, x -> x.read(0, -1));
        refusedWhenBusy("read, at work", NOT_POSSIBLE, x -> x.read(0, 0));
        refusedWhenBusy("read, at work", NOT_POSSIBLE, x -> x.read(0, 1));
        refusedWhenBusy("read, not below the pointer", NONE, x -> x.read(0, 2));
        refusedWhenBusy("read, empty", NONE, x -> x.read(6, 0));
        refusedWhenBusy("zone, UNKNOWN ahead of BAD_VALUE", UNKNOWN, x -> x.zone(8, 9));
        refusedWhenBusy("zone, BAD_VALUE", BAD_VALUE, x -> x.zone(7, 9));
        refusedWhenBusy("appended, UNKNOWN ahead of BAD_VALUE", UNKNOWN, x -> x.appended(7, 8));
        refusedWhenBusy("appended, BAD_VALUE", BAD_VALUE, x -> x.appended(6, 8));
        refusedWhenBusy("appended, NONE", NONE, x -> x.appended(6, 4));
        refusedWhenBusy("writer, UNKNOWN ahead of BAD_VALUE", UNKNOWN, x -> x.writer(4, 6));
        refusedWhenBusy("writer, BAD_VALUE", BAD_VALUE, x -> x.writer(3, 6));
        refusedWhenBusy("told, BAD_VALUE", BAD_VALUE, x -> x.told(-1));
        refusedWhenBusy("told, not so many", NONE, x -> x.told(4));
        refusedWhenBusy("toldIn, UNKNOWN", UNKNOWN, x -> x.toldIn(7));
        refusedWhenBusy("toldIn, told", NOT_POSSIBLE, x -> x.toldIn(3));
        refusedWhenBusy("would, UNKNOWN ahead of BAD_VALUE", UNKNOWN, x -> x.would(8, 2));
        refusedWhenBusy("would, BAD_VALUE", BAD_VALUE, x -> x.would(7, 2));
        refusedWhenBusy("would, BAD_VALUE ahead of NONE", BAD_VALUE, x -> x.would(4, 2));
        refusedWhenBusy("would, full", NONE, x -> x.would(4, 0));
        refusedWhenBusy("would, finished", NONE, x -> x.would(5, 1));
        refusedWhenBusy("count, BAD_VALUE", BAD_VALUE, x -> x.count(16));
        A.due("told, the last one", busy().told(3), 2);
    }
}
