/**
 * Zones to which writers append without knowing the place, and are told it afterwards.
 * What each call answers is told by the document; here stands only how it comes about.
 */
public final class AppendZones {
    public static final int UNKNOWN = -1;
    public static final int BAD_VALUE = -2;
    public static final int FULL = -3;
    public static final int NOT_POSSIBLE = -4;
    public static final int NONE = -5;

    private static final int ZONES = 8;
    private static final int WRITERS = 4;
    private static final int MOST_CHANNELS = 4;
    private static final int MOST_BLOCKS = 16;
    private static final int LONGEST_DELAY = 9;
    private static final int WIDEST_WINDOW = 8;
    private static final int HIGHEST_VALUE = 99;
    private static final int MOST_TICKS = 99;
    private static final int LAST_TICK = 9999;
    private static final int LONGEST_FORECAST = 999;
    private static final int MOST_APPENDS = 200;
    private static final int MOST_STATES = 4;
    private static final int MOST_CHARACTERS = 60;

    // A forecast sends one append more than there may be, whatever the windows are.
    private static final int APPEND_ROOM = MOST_APPENDS + 1;
    private static final int LIVE_ROOM = WRITERS * WIDEST_WINDOW + 1;

    private static final int EMPTY = 0;
    private static final int OPEN = 1;
    private static final int CLOSED = 2;
    private static final int FILLED = 3;

    private static final int WAITS = 0;
    private static final int AT_WORK = 1;
    private static final int TOLD = 2;
    private static final int FAILED = 3;

    private static final int ZONE_WAS_FULL = 1;
    private static final int ZONE_WAS_RESET = 2;
    private static final int ZONE_WAS_FINISHED = 3;

    private static final int BY_NUMBERS = 0;
    private static final int BY_ZONES = 1;

    // Inside, "nothing" is any negative number that is no index.
    private static final int NOTHING = -1;
    private static final int FAULT_BASE = -100;

    private final State now = new State();
    private final State snapshot = new State();
    private boolean hasSnapshot = false;
    private final History history = new History();
    private final OrderText text = new OrderText();

    public AppendZones() {
    }

    // ---- settings

    public int set(int what, int value) {
        history.draft(now);
        return history.settle(now.changeNumber(what, value));
    }

    public int setZone(int zone, boolean delay, int value) {
        history.draft(now);
        return history.settle(delay ? now.changeDelay(zone, value) : now.changeCapacity(zone, value));
    }

    public int setWindow(int writer, int window) {
        history.draft(now);
        return history.settle(now.changeWindow(writer, window));
    }

    // ---- appends, zones

    public int append(int writer, int zone, int value) {
        history.draft(now);
        return history.settle(now.send(writer, zone, value));
    }

    public int reset(int zone) {
        history.draft(now);
        return history.settle(now.wipe(zone));
    }

    public int finish(int zone) {
        history.draft(now);
        return history.settle(now.fill(zone));
    }

    public int close(int zone) {
        history.draft(now);
        return history.settle(now.shut(zone));
    }

    public int pass(int ticks) {
        history.draft(now);
        return history.settle(now.letPass(ticks));
    }

    public int follow() {
        int fault = text.fault();
        if (fault != NOTHING) {
            return FAULT_BASE - fault;
        }
        history.draft(now);
        int at = 0;
        int orders = 0;
        for (; orders < MOST_CHARACTERS && at < text.length; orders++) {
            int answer = doOrder(at);
            if (answer < 0 && answer != NONE) {
                history.takeDraftBack(now);
                return answer;
            }
            at = text.behindOrder(at) + 1;
        }
        return history.settle(orders);
    }

    // ---- texts

    public int type(char character) {
        return text.add(character);
    }

    public int clearText() {
        return text.empty();
    }

    // ---- history

    public int undo() {
        return history.stepBack(now);
    }

    public int keep() {
        snapshot.copyFrom(now);
        hasSnapshot = true;
        return now.tick;
    }

    public int restore() {
        if (!hasSnapshot) {
            return NONE;
        }
        history.draft(now);
        now.copyFrom(snapshot);
        return history.settle(now.tick);
    }

    // ---- what is told

    public int read(int zone, int place) {
        return now.blockAt(zone, place);
    }

    public int zone(int zone, int what) {
        return now.tellZone(zone, what);
    }

    public int appended(int append, int what) {
        return now.appends.tellAppend(append, what);
    }

    public int writer(int writer, int what) {
        return now.tellWriter(writer, what);
    }

    public int told(int rank) {
        return now.appends.toldAt(rank);
    }

    public int toldIn(int append) {
        if (!now.appends.isNumber(append)) {
            return UNKNOWN;
        }
        if (!now.appends.isLive(append)) {
            return NOT_POSSIBLE;
        }
        return history.draft(now).ticksUntilTold(append);
    }

    public int would(int zone, int what) {
        if (!isZone(zone)) {
            return UNKNOWN;
        }
        if (what < 0 || what > 1) {
            return BAD_VALUE;
        }
        State forecast = history.draft(now);
        int number = forecast.appends.add(0, zone, 0);
        if (number == NOTHING) {
            return NONE;
        }
        int ticks = forecast.ticksUntilTold(number);
        if (ticks == NONE) {
            return NONE;
        }
        return what == 0 ? forecast.appends.placeOf[number] : ticks;
    }

    public int count(int what) {
        switch (what) {
            case 14:
                return history.kept;
            case 15:
                return text.length;
            default:
                return now.tellNumber(what);
        }
    }

    /** Does one order of a text without a fault; answers as the call that it stands for. */
    private int doOrder(int at) {
        char first = text.sign(at);
        if (first == 'r') {
            return now.wipe(text.digit(at + 1));
        }
        if (first == 'f') {
            return now.fill(text.digit(at + 1));
        }
        if (first == 'p') {
            return now.letPass(text.digit(at + 1));
        }
        return now.send(text.digit(at), text.digit(at + 2), text.valueFrom(at + 4));
    }

    // ---- small questions that several classes ask

    private static boolean isZone(int zone) {
        return zone >= 0 && zone < ZONES;
    }

    private static boolean isWriter(int writer) {
        return writer >= 0 && writer < WRITERS;
    }

    private static boolean isFrom(int value, int least, int most) {
        return value >= least && value <= most;
    }

    private static void copy(int[] from, int[] to, int length) {
        if (length >= 0 && length <= from.length && length <= to.length) {
            System.arraycopy(from, 0, to, 0, length);
        }
    }

    /** All appends that were sent, the log of those that were told, and the few that are not at their end. */
    private static final class Appends {
        final int[] writerOf = new int[APPEND_ROOM];
        final int[] zoneOf = new int[APPEND_ROOM];
        final int[] valueOf = new int[APPEND_ROOM];
        final int[] phaseOf = new int[APPEND_ROOM];
        final int[] placeOf = new int[APPEND_ROOM];
        // The tick in which it is due; no tick is left out, so it is told in just that one.
        final int[] tickOf = new int[APPEND_ROOM];
        final int[] reasonOf = new int[APPEND_ROOM];
        // A reset fails what is at work, so an append is told in the generation in which it began.
        final int[] generationOf = new int[APPEND_ROOM];
        int sent = 0;
        final int[] toldOrder = new int[APPEND_ROOM];
        int toldSoFar = 0;
        // Numbers of appends that wait or are at work, ascending, so that a tick need not look at all.
        final int[] live = new int[LIVE_ROOM];
        int liveCount = 0;

        void copyFrom(Appends other) {
            sent = other.sent;
            toldSoFar = other.toldSoFar;
            liveCount = other.liveCount;
            copy(other.writerOf, writerOf, sent);
            copy(other.zoneOf, zoneOf, sent);
            copy(other.valueOf, valueOf, sent);
            copy(other.phaseOf, phaseOf, sent);
            copy(other.placeOf, placeOf, sent);
            copy(other.tickOf, tickOf, sent);
            copy(other.reasonOf, reasonOf, sent);
            copy(other.generationOf, generationOf, sent);
            copy(other.toldOrder, toldOrder, toldSoFar);
            copy(other.live, live, liveCount);
        }

        boolean isNumber(int number) {
            return number >= 0 && number < sent;
        }

        boolean isLive(int number) {
            return phaseOf[number] == WAITS || phaseOf[number] == AT_WORK;
        }

        /** Adds an append that waits; answers its number. */
        int add(int writer, int zone, int value) {
            if (sent >= APPEND_ROOM || liveCount >= LIVE_ROOM) {
                return NOTHING;
            }
            int number = sent;
            sent++;
            writerOf[number] = writer;
            zoneOf[number] = zone;
            valueOf[number] = value;
            phaseOf[number] = WAITS;
            placeOf[number] = NOTHING;
            tickOf[number] = NOTHING;
            reasonOf[number] = NONE;
            generationOf[number] = NOTHING;
            live[liveCount] = number;
            liveCount++;
            return number;
        }

        void begin(int number, int place, int due, int generation) {
            phaseOf[number] = AT_WORK;
            placeOf[number] = place;
            tickOf[number] = due;
            generationOf[number] = generation;
        }

        void markTold(int number) {
            phaseOf[number] = TOLD;
            if (toldSoFar < APPEND_ROOM) {
                toldOrder[toldSoFar] = number;
                toldSoFar++;
            }
        }

        void markFailed(int number, int reason) {
            phaseOf[number] = FAILED;
            reasonOf[number] = reason;
        }

        /** Fails the appends of a zone that are in a phase; answers how many. */
        int failInZone(int zone, int phase, int reason) {
            int failed = 0;
            for (int i = 0; i < liveCount; i++) {
                int number = live[i];
                if (zoneOf[number] == zone && phaseOf[number] == phase) {
                    markFailed(number, reason);
                    failed++;
                }
            }
            dropEnded();
            return failed;
        }

        /** Takes those that were told or have failed out of the live ones. */
        void dropEnded() {
            int left = 0;
            for (int i = 0; i < liveCount; i++) {
                if (isLive(live[i])) {
                    live[left] = live[i];
                    left++;
                }
            }
            liveCount = left;
        }

        int liveIn(int phase) {
            int found = 0;
            for (int i = 0; i < liveCount; i++) {
                if (phaseOf[live[i]] == phase) {
                    found++;
                }
            }
            return found;
        }

        int liveInZone(int zone, int phase) {
            int found = 0;
            for (int i = 0; i < liveCount; i++) {
                if (zoneOf[live[i]] == zone && phaseOf[live[i]] == phase) {
                    found++;
                }
            }
            return found;
        }

        int ofWriter(int writer, int phase) {
            int found = 0;
            for (int i = 0; i < sent; i++) {
                if (writerOf[i] == writer && phaseOf[i] == phase) {
                    found++;
                }
            }
            return found;
        }

        /** Whether an earlier append of its writer waits or is at work; the live ones stand in ascending order. */
        boolean isAhead(int number) {
            for (int i = 0; i < liveCount && live[i] < number; i++) {
                if (writerOf[live[i]] == writerOf[number] && isLive(live[i])) {
                    return true;
                }
            }
            return false;
        }

        int toldInGeneration(int zone, int generation) {
            int found = 0;
            for (int i = 0; i < sent; i++) {
                if (phaseOf[i] == TOLD && zoneOf[i] == zone && generationOf[i] == generation) {
                    found++;
                }
            }
            return found;
        }

        /** The append that was told, or is at work, at a place of a generation of a zone. */
        int holderOf(int zone, int generation, int place) {
            for (int i = 0; i < sent; i++) {
                if (zoneOf[i] == zone && generationOf[i] == generation && placeOf[i] == place
                        && (phaseOf[i] == TOLD || phaseOf[i] == AT_WORK)) {
                    return i;
                }
            }
            return NOTHING;
        }

        int toldAt(int rank) {
            if (rank < 0) {
                return BAD_VALUE;
            }
            return rank < toldSoFar ? toldOrder[rank] : NONE;
        }

        int tellAppend(int number, int what) {
            if (!isNumber(number)) {
                return UNKNOWN;
            }
            boolean told = phaseOf[number] == TOLD;
            switch (what) {
                case 0:
                    return writerOf[number];
                case 1:
                    return zoneOf[number];
                case 2:
                    return valueOf[number];
                case 3:
                    return phaseOf[number];
                case 4:
                    return told ? placeOf[number] : NONE;
                case 5:
                    return told ? tickOf[number] : NONE;
                case 6:
                    return reasonOf[number];
                case 7:
                    return told ? generationOf[number] : NONE;
                default:
                    return BAD_VALUE;
            }
        }
    }

    /** The zones, without what is in them or waits for them. */
    private static final class Zones {
        final int[] phaseOf = new int[ZONES];
        final int[] capacityOf = new int[ZONES];
        final int[] delayOf = new int[ZONES];
        final int[] pointerOf = new int[ZONES];
        final int[] generationOf = new int[ZONES];
        // A zone is opened only for an append that begins at once, so one number stands for both events.
        final int[] latestEventOf = new int[ZONES];
        int events = 0;
        int openLimit = 2;
        int useLimit = 4;
        int turn = 0;
        int madeWay = 0;

        Zones() {
            for (int zone = 0; zone < ZONES; zone++) {
                phaseOf[zone] = EMPTY;
                capacityOf[zone] = 8;
                delayOf[zone] = 2 + zone % 3;
            }
        }

        void copyFrom(Zones other) {
            copy(other.phaseOf, phaseOf, ZONES);
            copy(other.capacityOf, capacityOf, ZONES);
            copy(other.delayOf, delayOf, ZONES);
            copy(other.pointerOf, pointerOf, ZONES);
            copy(other.generationOf, generationOf, ZONES);
            copy(other.latestEventOf, latestEventOf, ZONES);
            events = other.events;
            openLimit = other.openLimit;
            useLimit = other.useLimit;
            turn = other.turn;
            madeWay = other.madeWay;
        }

        int inPhase(int phase) {
            int found = 0;
            for (int zone = 0; zone < ZONES; zone++) {
                if (phaseOf[zone] == phase) {
                    found++;
                }
            }
            return found;
        }

        int inUse() {
            int found = 0;
            for (int zone = 0; zone < ZONES; zone++) {
                if (phaseOf[zone] == OPEN || phaseOf[zone] == CLOSED) {
                    found++;
                }
            }
            return found;
        }

        /** Gives the next place of an open zone away. */
        int takePlace(int zone) {
            int place = pointerOf[zone];
            pointerOf[zone] = place + 1;
            if (pointerOf[zone] >= capacityOf[zone]) {
                phaseOf[zone] = FILLED;
            }
            events++;
            latestEventOf[zone] = events;
            return place;
        }

        void clear(int zone) {
            phaseOf[zone] = EMPTY;
            pointerOf[zone] = 0;
            generationOf[zone]++;
        }
    }

    /** All that the history and the snapshot keep. */
    private static final class State {
        final Appends appends = new Appends();
        final Zones zones = new Zones();
        final int[] windowOf = new int[WRITERS];
        // How many of a writer's appends were told ahead of an earlier one of it.
        final int[] aheadOf = new int[WRITERS];
        // Used within a tick alone, so it is no part of what is copied.
        final int[] order = new int[LIVE_ROOM];
        int channels = 2;
        int manner = BY_NUMBERS;
        int tick = 0;

        State() {
            for (int writer = 0; writer < WRITERS; writer++) {
                windowOf[writer] = 3;
            }
        }

        void copyFrom(State other) {
            appends.copyFrom(other.appends);
            zones.copyFrom(other.zones);
            copy(other.windowOf, windowOf, WRITERS);
            copy(other.aheadOf, aheadOf, WRITERS);
            channels = other.channels;
            manner = other.manner;
            tick = other.tick;
        }

        // -- settings

        int changeNumber(int what, int value) {
            switch (what) {
                case 0:
                    return changeOpenLimit(value);
                case 1:
                    return changeUseLimit(value);
                case 2:
                    return changeChannels(value);
                case 3:
                    return changeManner(value);
                default:
                    return BAD_VALUE;
            }
        }

        private int changeOpenLimit(int value) {
            int previous = zones.openLimit;
            if (!isFrom(value, 1, ZONES)) {
                return BAD_VALUE;
            }
            if (zones.inPhase(OPEN) > value) {
                return NOT_POSSIBLE;
            }
            zones.openLimit = value;
            return previous == value ? NONE : previous;
        }

        private int changeUseLimit(int value) {
            int previous = zones.useLimit;
            if (!isFrom(value, 1, ZONES)) {
                return BAD_VALUE;
            }
            if (zones.inUse() > value) {
                return NOT_POSSIBLE;
            }
            zones.useLimit = value;
            return previous == value ? NONE : previous;
        }

        private int changeChannels(int value) {
            int previous = channels;
            if (!isFrom(value, 1, MOST_CHANNELS)) {
                return BAD_VALUE;
            }
            channels = value;
            return previous == value ? NONE : previous;
        }

        private int changeManner(int value) {
            int previous = manner;
            if (!isFrom(value, BY_NUMBERS, BY_ZONES)) {
                return BAD_VALUE;
            }
            manner = value;
            return previous == value ? NONE : previous;
        }

        int changeDelay(int zone, int value) {
            if (!isZone(zone)) {
                return UNKNOWN;
            }
            if (!isFrom(value, 1, LONGEST_DELAY)) {
                return BAD_VALUE;
            }
            int previous = zones.delayOf[zone];
            zones.delayOf[zone] = value;
            return previous == value ? NONE : previous;
        }

        int changeCapacity(int zone, int value) {
            if (!isZone(zone)) {
                return UNKNOWN;
            }
            if (!isFrom(value, 1, MOST_BLOCKS)) {
                return BAD_VALUE;
            }
            if (zones.phaseOf[zone] != EMPTY) {
                return NOT_POSSIBLE;
            }
            int previous = zones.capacityOf[zone];
            zones.capacityOf[zone] = value;
            return previous == value ? NONE : previous;
        }

        int changeWindow(int writer, int window) {
            if (!isWriter(writer)) {
                return UNKNOWN;
            }
            if (!isFrom(window, 1, WIDEST_WINDOW)) {
                return BAD_VALUE;
            }
            int previous = windowOf[writer];
            windowOf[writer] = window;
            return previous == window ? NONE : previous;
        }

        // -- acts on appends and zones

        int send(int writer, int zone, int value) {
            if (!isWriter(writer) || !isZone(zone)) {
                return UNKNOWN;
            }
            if (!isFrom(value, 0, HIGHEST_VALUE)) {
                return BAD_VALUE;
            }
            int underWay = appends.ofWriter(writer, WAITS) + appends.ofWriter(writer, AT_WORK);
            if (underWay >= windowOf[writer] || appends.sent >= MOST_APPENDS) {
                return FULL;
            }
            int number = appends.add(writer, zone, value);
            return number == NOTHING ? FULL : number;
        }

        int wipe(int zone) {
            if (!isZone(zone)) {
                return UNKNOWN;
            }
            if (zones.phaseOf[zone] == EMPTY) {
                return NONE;
            }
            int blocks = appends.toldInGeneration(zone, zones.generationOf[zone]);
            appends.failInZone(zone, AT_WORK, ZONE_WAS_RESET);
            zones.clear(zone);
            return blocks;
        }

        int fill(int zone) {
            if (!isZone(zone)) {
                return UNKNOWN;
            }
            if (zones.phaseOf[zone] == EMPTY) {
                return NOT_POSSIBLE;
            }
            if (zones.phaseOf[zone] == FILLED) {
                return NONE;
            }
            zones.phaseOf[zone] = FILLED;
            return appends.failInZone(zone, WAITS, ZONE_WAS_FINISHED);
        }

        int shut(int zone) {
            if (!isZone(zone)) {
                return UNKNOWN;
            }
            if (zones.phaseOf[zone] != OPEN || appends.liveInZone(zone, AT_WORK) > 0) {
                return NOT_POSSIBLE;
            }
            zones.phaseOf[zone] = CLOSED;
            return zones.inPhase(OPEN);
        }

        int letPass(int ticks) {
            if (!isFrom(ticks, 1, MOST_TICKS)) {
                return BAD_VALUE;
            }
            if (tick + ticks > LAST_TICK) {
                return FULL;
            }
            int before = appends.toldSoFar;
            for (int i = 0; i < ticks; i++) {
                letOnePass();
            }
            return appends.toldSoFar - before;
        }

        // -- a tick

        private void letOnePass() {
            tellDue();
            int waiting = putInOrder();
            int first = NOTHING;
            for (int i = 0; i < waiting; i++) {
                if (hasBegun(order[i]) && first == NOTHING) {
                    first = appends.zoneOf[order[i]];
                }
            }
            if (manner == BY_ZONES && first != NOTHING) {
                zones.turn = (first + 1) % ZONES;
            }
            appends.dropEnded();
            tick++;
        }

        private void tellDue() {
            for (int i = 0; i < appends.liveCount; i++) {
                int number = appends.live[i];
                if (appends.phaseOf[number] == AT_WORK && appends.tickOf[number] == tick) {
                    if (appends.isAhead(number)) {
                        aheadOf[appends.writerOf[number]]++;
                    }
                    appends.markTold(number);
                }
            }
        }

        /** Fixes the order in which those that wait are looked at in this tick; answers how many there are. */
        private int putInOrder() {
            int rounds = manner == BY_ZONES ? ZONES : 1;
            int placed = 0;
            for (int round = 0; round < rounds; round++) {
                int zone = (zones.turn + round) % ZONES;
                for (int i = 0; i < appends.liveCount; i++) {
                    int number = appends.live[i];
                    boolean isItsRound = manner == BY_NUMBERS || appends.zoneOf[number] == zone;
                    if (isItsRound && appends.phaseOf[number] == WAITS && placed < LIVE_ROOM) {
                        order[placed] = number;
                        placed++;
                    }
                }
            }
            return placed;
        }

        /** Looks at one append that waits; answers whether it is at work then. */
        private boolean hasBegun(int number) {
            int zone = appends.zoneOf[number];
            if (zones.phaseOf[zone] == FILLED) {
                appends.markFailed(number, ZONE_WAS_FULL);
                return false;
            }
            if (appends.liveIn(AT_WORK) >= channels) {
                return false;
            }
            if (zones.phaseOf[zone] != OPEN && !couldOpen(zone)) {
                return false;
            }
            int place = zones.takePlace(zone);
            int due = tick + zones.delayOf[zone] + place % 2;
            appends.begin(number, place, due, zones.generationOf[zone]);
            return true;
        }

        /** Opens an empty or closed zone, if it can; a zone is closed for it only then. */
        private boolean couldOpen(int zone) {
            if (zones.phaseOf[zone] == EMPTY && zones.inUse() >= zones.useLimit) {
                return false;
            }
            if (zones.inPhase(OPEN) >= zones.openLimit) {
                int idle = longestIdle();
                if (idle == NOTHING) {
                    return false;
                }
                zones.phaseOf[idle] = CLOSED;
                zones.madeWay++;
            }
            zones.phaseOf[zone] = OPEN;
            return true;
        }

        /** The open zone without an append at work whose latest event is the earliest one, or NOTHING. */
        private int longestIdle() {
            int busy = 0;
            for (int i = 0; i < appends.liveCount; i++) {
                if (appends.phaseOf[appends.live[i]] == AT_WORK) {
                    busy |= 1 << appends.zoneOf[appends.live[i]];
                }
            }
            int best = NOTHING;
            for (int zone = 0; zone < ZONES; zone++) {
                boolean isIdle = zones.phaseOf[zone] == OPEN && (busy >> zone & 1) == 0;
                if (isIdle && (best == NOTHING || zones.latestEventOf[zone] < zones.latestEventOf[best])) {
                    best = zone;
                }
            }
            return best;
        }

        // -- a forecast, which uses this state up

        int ticksUntilTold(int number) {
            for (int ticks = 1; ticks <= LONGEST_FORECAST; ticks++) {
                letOnePass();
                if (appends.phaseOf[number] == TOLD) {
                    return ticks;
                }
                // Behind a tick with nothing at work no zone changes any more, so what waits waits for ever.
                if (appends.phaseOf[number] == FAILED || appends.liveIn(AT_WORK) == 0) {
                    return NONE;
                }
            }
            return NONE;
        }

        // -- what is told

        int blockAt(int zone, int place) {
            if (!isZone(zone)) {
                return UNKNOWN;
            }
            if (place < 0) {
                return BAD_VALUE;
            }
            int number = appends.holderOf(zone, zones.generationOf[zone], place);
            if (number == NOTHING) {
                return NONE;
            }
            return appends.phaseOf[number] == AT_WORK ? NOT_POSSIBLE : appends.valueOf[number];
        }

        int tellZone(int zone, int what) {
            if (!isZone(zone)) {
                return UNKNOWN;
            }
            switch (what) {
                case 0:
                    return zones.phaseOf[zone];
                case 1:
                    return zones.capacityOf[zone];
                case 2:
                    return zones.delayOf[zone];
                case 3:
                    return zones.pointerOf[zone];
                case 4:
                    return zones.generationOf[zone];
                case 5:
                    return appends.toldInGeneration(zone, zones.generationOf[zone]);
                case 6:
                    return appends.liveInZone(zone, AT_WORK);
                case 7:
                    return appends.liveInZone(zone, WAITS);
                case 8:
                    return readableFromStart(zone);
                default:
                    return BAD_VALUE;
            }
        }

        private int readableFromStart(int zone) {
            int place = 0;
            while (place < zones.pointerOf[zone] && blockAt(zone, place) >= 0) {
                place++;
            }
            return place;
        }

        int tellWriter(int writer, int what) {
            if (!isWriter(writer)) {
                return UNKNOWN;
            }
            switch (what) {
                case 0:
                    return windowOf[writer];
                case 1:
                    return appends.ofWriter(writer, WAITS);
                case 2:
                    return appends.ofWriter(writer, AT_WORK);
                case 3:
                    return appends.ofWriter(writer, TOLD);
                case 4:
                    return appends.ofWriter(writer, FAILED);
                case 5:
                    return aheadOf[writer];
                default:
                    return BAD_VALUE;
            }
        }

        int tellNumber(int what) {
            switch (what) {
                case 0:
                    return tick;
                case 1:
                    return zones.openLimit;
                case 2:
                    return zones.useLimit;
                case 3:
                    return channels;
                case 4:
                    return manner;
                case 5:
                    return zones.inPhase(OPEN);
                case 6:
                    return zones.inUse();
                case 7:
                    return appends.sent;
                case 8:
                    return appends.liveIn(WAITS);
                case 9:
                    return appends.liveIn(AT_WORK);
                case 10:
                    return appends.toldSoFar;
                case 11:
                    return appends.sent - appends.toldSoFar - appends.liveCount;
                case 12:
                    return zones.madeWay;
                case 13:
                    return zones.turn;
                default:
                    return BAD_VALUE;
            }
        }
    }

    /**
     * The latest states, in a ring with one slot more than are kept: the state before a call is
     * drafted there, and only a call that succeeds makes it one of those that are kept.
     */
    private static final class History {
        private static final int SLOTS = MOST_STATES + 1;

        final State[] slots = new State[SLOTS];
        int oldest = 0;
        int kept = 0;

        History() {
            for (int i = 0; i < SLOTS; i++) {
                slots[i] = new State();
            }
        }

        private State slotBehind() {
            return slots[(oldest + kept) % SLOTS];
        }

        /** Copies a state into the free slot; a draft that is never settled may be used up by a forecast. */
        State draft(State before) {
            State free = slotBehind();
            free.copyFrom(before);
            return free;
        }

        void takeDraftBack(State now) {
            now.copyFrom(slotBehind());
        }

        /** Keeps the draft if the answer is neither an error nor NONE; hands the answer on. */
        int settle(int answer) {
            if (answer >= 0) {
                if (kept < MOST_STATES) {
                    kept++;
                } else {
                    oldest = (oldest + 1) % SLOTS;
                }
            }
            return answer;
        }

        int stepBack(State now) {
            if (kept == 0) {
                return NONE;
            }
            kept--;
            now.copyFrom(slotBehind());
            return kept;
        }
    }

    /** The text of orders, and the places of its faults. */
    private static final class OrderText {
        // What may come next, by what stands in front.
        private static final int AT_ORDER = 0;
        private static final int AT_ARROW = 1;
        private static final int AT_ZONE = 2;
        private static final int AT_EQUALS = 3;
        private static final int AT_VALUE = 4;
        private static final int AT_SECOND_DIGIT = 5;
        private static final int AT_LONE_ZONE = 6;
        private static final int AT_TICKS = 7;
        private static final int AT_END = 8;

        final char[] signs = new char[MOST_CHARACTERS];
        int length = 0;

        int add(char character) {
            if (length >= MOST_CHARACTERS) {
                return FULL;
            }
            signs[length] = character;
            length++;
            return length;
        }

        int empty() {
            int before = length;
            length = 0;
            return before;
        }

        /** The index of the first character that is not allowed, or the length if more is due; or NOTHING. */
        int fault() {
            int place = AT_ORDER;
            for (int i = 0; i < length; i++) {
                place = placeBehind(place, signs[i]);
                if (place == NOTHING) {
                    return i;
                }
            }
            return place == AT_END || place == AT_SECOND_DIGIT ? NOTHING : length;
        }

        private static int placeBehind(int place, char sign) {
            switch (place) {
                case AT_ORDER:
                    return placeBehindFirst(sign);
                case AT_ARROW:
                    return sign == '>' ? AT_ZONE : NOTHING;
                case AT_ZONE:
                    return isFrom(sign, '0', '7') ? AT_EQUALS : NOTHING;
                case AT_EQUALS:
                    return sign == '=' ? AT_VALUE : NOTHING;
                case AT_VALUE:
                    if (sign == '0') {
                        return AT_END;
                    }
                    return isFrom(sign, '1', '9') ? AT_SECOND_DIGIT : NOTHING;
                case AT_SECOND_DIGIT:
                    if (isFrom(sign, '0', '9')) {
                        return AT_END;
                    }
                    return sign == ';' ? AT_ORDER : NOTHING;
                case AT_LONE_ZONE:
                    return isFrom(sign, '0', '7') ? AT_END : NOTHING;
                case AT_TICKS:
                    return isFrom(sign, '1', '9') ? AT_END : NOTHING;
                default:
                    return sign == ';' ? AT_ORDER : NOTHING;
            }
        }

        private static int placeBehindFirst(char sign) {
            if (isFrom(sign, '0', '3')) {
                return AT_ARROW;
            }
            if (sign == 'r' || sign == 'f') {
                return AT_LONE_ZONE;
            }
            return sign == 'p' ? AT_TICKS : NOTHING;
        }

        /** The character at an index; ";" stands behind the last order too. */
        char sign(int at) {
            return at >= 0 && at < length ? signs[at] : ';';
        }

        int digit(int at) {
            return sign(at) - '0';
        }

        int valueFrom(int at) {
            int value = digit(at);
            return sign(at + 1) == ';' ? value : value * 10 + digit(at + 1);
        }

        /** The index of the ";" behind an order, or the length. */
        int behindOrder(int at) {
            int end = at;
            while (end < length && signs[end] != ';') {
                end++;
            }
            return end;
        }
    }
}
