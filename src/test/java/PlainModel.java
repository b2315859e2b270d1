import java.util.ArrayList;
import java.util.HashMap;
import java.util.List;
import java.util.Map;
import java.util.regex.Pattern;

/**
 * The document said once more, as plainly as the Java library lets it be said and in another manner than
 * the program: lists of objects, whole copies, no shortcut in a forecast, the text by a regular expression.
 */
final class PlainModel {
    static final int UNKNOWN = -1, BAD_VALUE = -2, FULL = -3, NOT_POSSIBLE = -4, NONE = -5;

    static final class Append {
        int number, writer, zone, value;
        String is = "waits";
        int place = NONE, due = NONE, toldTick = NONE, reason = NONE, generation = NONE;

        Append copy() {
            Append a = new Append();
            a.number = number; a.writer = writer; a.zone = zone; a.value = value; a.is = is;
            a.place = place; a.due = due; a.toldTick = toldTick; a.reason = reason; a.generation = generation;
            return a;
        }

        boolean atWork() { return is.equals("works"); }
        boolean waits() { return is.equals("waits"); }
        boolean wasTold() { return is.equals("told"); }
        boolean hasFailed() { return is.equals("failed"); }

        void fail(int why) { is = "failed"; reason = why; }
    }

    static final class World {
        List<Append> appends = new ArrayList<>();
        List<Integer> log = new ArrayList<>();
        /** Zones in the order in which they were opened, or an append came to be at work in them. */
        List<Integer> events = new ArrayList<>();
        /** Who holds the places of each zone since its last reset. */
        List<Map<Integer, Append>> blocks = new ArrayList<>();
        int[] state = new int[8], capacity = new int[8], delay = new int[8], pointer = new int[8], generation = new int[8];
        int[] window = {3, 3, 3, 3}, ahead = new int[4];
        int[] numbers = {2, 4, 2, 0};
        int tick = 0, turn = 0, madeWay = 0;

        World() {
            for (int z = 0; z < 8; z++) {
                capacity[z] = 8;
                delay[z] = 2 + z % 3;
                blocks.add(new HashMap<>());
            }
        }

        World copy() {
            World w = new World();
            for (Append a : appends) w.appends.add(a.copy());
            w.log.addAll(log);
            w.events.addAll(events);
            for (int z = 0; z < 8; z++) {
                for (Map.Entry<Integer, Append> e : blocks.get(z).entrySet()) {
                    w.blocks.get(z).put(e.getKey(), w.appends.get(e.getValue().number));
                }
            }
            w.state = state.clone(); w.capacity = capacity.clone(); w.delay = delay.clone();
            w.pointer = pointer.clone(); w.generation = generation.clone();
            w.window = window.clone(); w.ahead = ahead.clone(); w.numbers = numbers.clone();
            w.tick = tick; w.turn = turn; w.madeWay = madeWay;
            return w;
        }

        int open() { int n = 0; for (int s : state) if (s == 1) n++; return n; }
        int used() { int n = 0; for (int s : state) if (s == 1 || s == 2) n++; return n; }
        int working() { return (int) appends.stream().filter(Append::atWork).count(); }
        int workingIn(int z) { return (int) appends.stream().filter(a -> a.zone == z && a.atWork()).count(); }

        Append send(int writer, int zone, int value) {
            Append a = new Append();
            a.number = appends.size(); a.writer = writer; a.zone = zone; a.value = value;
            appends.add(a);
            return a;
        }

        void onePasses() {
            for (Append a : appends) {
                if (a.atWork() && a.due == tick) {
                    boolean ahead = false;
                    for (Append b : appends) {
                        if (b.writer == a.writer && b.number < a.number && (b.waits() || b.atWork())) ahead = true;
                    }
                    if (ahead) this.ahead[a.writer]++;
                    a.is = "told";
                    a.toldTick = tick;
                    a.generation = generation[a.zone];
                    log.add(a.number);
                }
            }
            List<Append> order = new ArrayList<>();
            for (Append a : appends) if (a.waits()) order.add(a);
            if (numbers[3] == 1) {
                int from = turn;
                order.sort((a, b) -> {
                    int byZone = Math.floorMod(a.zone - from, 8) - Math.floorMod(b.zone - from, 8);
                    return byZone != 0 ? byZone : a.number - b.number;
                });
            }
            Append first = null;
            for (Append a : order) {
                if (look(a) && first == null) first = a;
            }
            if (numbers[3] == 1 && first != null) turn = first.zone == 7 ? 0 : first.zone + 1;
            tick++;
        }

        boolean look(Append a) {
            int z = a.zone;
            if (state[z] == 3) { a.fail(1); return false; }
            if (working() >= numbers[2]) return false;
            if (state[z] != 1) {
                if (state[z] == 0 && !(used() < numbers[1])) return false;
                if (!(open() < numbers[0])) {
                    int victim = -1;
                    for (int c = 0; c < 8; c++) {
                        if (state[c] == 1 && workingIn(c) == 0) {
                            if (victim < 0 || events.lastIndexOf(c) < events.lastIndexOf(victim)) victim = c;
                        }
                    }
                    if (victim < 0) return false;
                    state[victim] = 2;
                    madeWay++;
                }
                state[z] = 1;
                events.add(z);
            }
            a.is = "works";
            a.place = pointer[z]++;
            a.due = tick + delay[z] + a.place % 2;
            blocks.get(z).put(a.place, a);
            events.add(z);
            if (pointer[z] == capacity[z]) state[z] = 3;
            return true;
        }

        int reset(int z) {
            int had = 0;
            for (Append a : blocks.get(z).values()) {
                if (a.wasTold()) had++;
                if (a.atWork()) a.fail(2);
            }
            blocks.get(z).clear();
            pointer[z] = 0;
            state[z] = 0;
            generation[z]++;
            return had;
        }

        int finish(int z) {
            int failed = 0;
            state[z] = 3;
            for (Append a : appends) {
                if (a.zone == z && a.waits()) { a.fail(3); failed++; }
            }
            return failed;
        }

        int live(int writer) {
            return (int) appends.stream().filter(a -> a.writer == writer && (a.waits() || a.atWork())).count();
        }

        // the same acts with their errors; what they answer tells whether anything changed
        int trySend(int writer, int zone, int value) {
            if (writer < 0 || writer > 3 || zone < 0 || zone > 7) return UNKNOWN;
            if (value < 0 || value > 99) return BAD_VALUE;
            if (live(writer) >= window[writer] || appends.size() >= 200) return FULL;
            return send(writer, zone, value).number;
        }

        int tryReset(int z) {
            if (z < 0 || z > 7) return UNKNOWN;
            return state[z] == 0 ? NONE : reset(z);
        }

        int tryFinish(int z) {
            if (z < 0 || z > 7) return UNKNOWN;
            if (state[z] == 0) return NOT_POSSIBLE;
            return state[z] == 3 ? NONE : finish(z);
        }

        int tryPass(int ticks) {
            if (ticks < 1 || ticks > 99) return BAD_VALUE;
            if (tick + ticks > 9999) return FULL;
            int before = log.size();
            for (int i = 0; i < ticks; i++) onePasses();
            return log.size() - before;
        }
    }

    private World now = new World();
    private World snapshot = null;
    private final List<World> history = new ArrayList<>();
    private String text = "";

    private int act(World before, int answer) {
        if (answer < 0) {
            now = before;
        } else {
            history.add(before);
            if (history.size() > 4) history.remove(0);
        }
        return answer;
    }

    int set(int what, int value) {
        int[] most = {8, 8, 4, 1};
        if (what < 0 || what > 3 || value < (what == 3 ? 0 : 1) || value > most[what]) return BAD_VALUE;
        if (what == 0 && now.open() > value || what == 1 && now.used() > value) return NOT_POSSIBLE;
        if (now.numbers[what] == value) return NONE;
        World before = now.copy();
        int was = now.numbers[what];
        now.numbers[what] = value;
        return act(before, was);
    }

    int setZone(int zone, boolean delay, int value) {
        if (zone < 0 || zone > 7) return UNKNOWN;
        if (value < 1 || value > (delay ? 9 : 16)) return BAD_VALUE;
        if (!delay && now.state[zone] != 0) return NOT_POSSIBLE;
        int[] which = delay ? now.delay : now.capacity;
        if (which[zone] == value) return NONE;
        World before = now.copy();
        int was = which[zone];
        which[zone] = value;
        return act(before, was);
    }

    int setWindow(int writer, int window) {
        if (writer < 0 || writer > 3) return UNKNOWN;
        if (window < 1 || window > 8) return BAD_VALUE;
        if (now.window[writer] == window) return NONE;
        World before = now.copy();
        int was = now.window[writer];
        now.window[writer] = window;
        return act(before, was);
    }

    int append(int writer, int zone, int value) { World before = now.copy(); return act(before, now.trySend(writer, zone, value)); }
    int reset(int zone) { World before = now.copy(); return act(before, now.tryReset(zone)); }
    int finish(int zone) { World before = now.copy(); return act(before, now.tryFinish(zone)); }
    int pass(int ticks) { World before = now.copy(); return act(before, now.tryPass(ticks)); }

    int close(int zone) {
        if (zone < 0 || zone > 7) return UNKNOWN;
        if (now.state[zone] != 1 || now.workingIn(zone) > 0) return NOT_POSSIBLE;
        World before = now.copy();
        now.state[zone] = 2;
        return act(before, now.open());
    }

    private static final String APPEND = "[0-3]>[0-7]=(?:0|[1-9][0-9]?)";
    private static final Pattern ORDERS = Pattern.compile("(?:" + APPEND + "|[rf][0-7]|p[1-9])(?:;(?:" + APPEND + "|[rf][0-7]|p[1-9]))*", Pattern.DOTALL);

    /** A start of a text is good if it can be made longer to a text of orders; the matcher tells that by hitEnd. */
    private int fault() {
        if (ORDERS.matcher(text).matches()) return -1;
        for (int n = 1; n <= text.length(); n++) {
            java.util.regex.Matcher m = ORDERS.matcher(text.substring(0, n));
            if (!m.matches() && !m.hitEnd()) return n - 1;
        }
        return text.length();
    }

    int follow() {
        int fault = fault();
        if (fault >= 0) return -100 - fault;
        World before = now.copy();
        String[] orders = text.split(";");
        for (String o : orders) {
            int answer;
            if (o.charAt(0) == 'r') answer = now.tryReset(o.charAt(1) - '0');
            else if (o.charAt(0) == 'f') answer = now.tryFinish(o.charAt(1) - '0');
            else if (o.charAt(0) == 'p') answer = now.tryPass(o.charAt(1) - '0');
            else answer = now.trySend(o.charAt(0) - '0', o.charAt(2) - '0', Integer.parseInt(o.substring(4)));
            if (answer < 0 && answer != NONE) return act(before, answer);
        }
        return act(before, orders.length);
    }

    int type(char c) {
        if (text.length() == 60) return FULL;
        text = text + c;
        return text.length();
    }

    int clearText() { int n = text.length(); text = ""; return n; }

    int undo() {
        if (history.isEmpty()) return NONE;
        now = history.remove(history.size() - 1);
        return history.size();
    }

    int keep() { snapshot = now.copy(); return now.tick; }

    int restore() {
        if (snapshot == null) return NONE;
        World before = now;
        now = snapshot.copy();
        return act(before, now.tick);
    }

    int read(int zone, int place) {
        if (zone < 0 || zone > 7) return UNKNOWN;
        if (place < 0) return BAD_VALUE;
        if (place >= now.pointer[zone]) return NONE;
        Append a = now.blocks.get(zone).get(place);
        return a.atWork() ? NOT_POSSIBLE : a.value;
    }

    int zone(int zone, int what) {
        if (zone < 0 || zone > 7) return UNKNOWN;
        switch (what) {
            case 0: return now.state[zone];
            case 1: return now.capacity[zone];
            case 2: return now.delay[zone];
            case 3: return now.pointer[zone];
            case 4: return now.generation[zone];
            case 5: return (int) now.blocks.get(zone).values().stream().filter(Append::wasTold).count();
            case 6: return now.workingIn(zone);
            case 7: return (int) now.appends.stream().filter(a -> a.zone == zone && a.waits()).count();
            case 8:
                int n = 0;
                while (now.blocks.get(zone).containsKey(n) && now.blocks.get(zone).get(n).wasTold()) n++;
                return n;
            default: return BAD_VALUE;
        }
    }

    int appended(int append, int what) {
        if (append < 0 || append >= now.appends.size()) return UNKNOWN;
        Append a = now.appends.get(append);
        switch (what) {
            case 0: return a.writer;
            case 1: return a.zone;
            case 2: return a.value;
            case 3: return a.waits() ? 0 : a.atWork() ? 1 : a.wasTold() ? 2 : 3;
            case 4: return a.wasTold() ? a.place : NONE;
            case 5: return a.toldTick;
            case 6: return a.reason;
            case 7: return a.generation;
            default: return BAD_VALUE;
        }
    }

    int writer(int writer, int what) {
        if (writer < 0 || writer > 3) return UNKNOWN;
        if (what < 0 || what > 5) return BAD_VALUE;
        if (what == 0) return now.window[writer];
        if (what == 5) return now.ahead[writer];
        return (int) now.appends.stream().filter(a -> a.writer == writer && appended(a.number, 3) == what - 1).count();
    }

    int told(int rank) {
        if (rank < 0) return BAD_VALUE;
        return rank < now.log.size() ? now.log.get(rank) : NONE;
    }

    private static int ticksUntilTold(World w, Append a) {
        for (int n = 1; n <= 999; n++) {
            w.onePasses();
            if (a.wasTold()) return n;
        }
        return NONE;
    }

    int toldIn(int append) {
        if (append < 0 || append >= now.appends.size()) return UNKNOWN;
        if (appended(append, 3) >= 2) return NOT_POSSIBLE;
        World w = now.copy();
        return ticksUntilTold(w, w.appends.get(append));
    }

    int would(int zone, int what) {
        if (zone < 0 || zone > 7) return UNKNOWN;
        if (what < 0 || what > 1) return BAD_VALUE;
        World w = now.copy();
        Append a = w.send(3, zone, 99);
        int ticks = ticksUntilTold(w, a);
        return ticks == NONE ? NONE : what == 0 ? a.place : ticks;
    }

    int count(int what) {
        switch (what) {
            case 0: return now.tick;
            case 1: case 2: case 3: case 4: return now.numbers[what - 1];
            case 5: return now.open();
            case 6: return now.used();
            case 7: return now.appends.size();
            case 8: return (int) now.appends.stream().filter(Append::waits).count();
            case 9: return now.working();
            case 10: return now.log.size();
            case 11: return (int) now.appends.stream().filter(Append::hasFailed).count();
            case 12: return now.madeWay;
            case 13: return now.turn;
            case 14: return history.size();
            case 15: return text.length();
            default: return BAD_VALUE;
        }
    }
}
