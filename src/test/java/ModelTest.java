import java.util.Random;

/** Runs of calls by a fixed seed, each answered by the program and by the plain model alike. */
public final class ModelTest {
    private static final int RUNS = 2000;
    private static final int CALLS = 512;
    private static final int LEANS = 8;
    private static final int MANY_APPENDS = 6;
    private static final int MANY_TICKS = 7;
    private static final String SIGNS = "0123>=;rfp0123456789>=;rfp :x";

    private final Answers answers;
    private final Random random;
    private final AppendZones x = new AppendZones();
    private final PlainModel model = new PlainModel();
    /** How often wrong arguments come, and how this run leans, so that runs differ in kind. */
    private final int wrongness;
    private final int lean;
    private final int zones;

    private ModelTest(Answers answers, long seed) {
        this.answers = answers;
        // Seeds that stand side by side begin with much the same numbers, and all runs would lean alike.
        this.random = new Random(seed * 0x9E3779B97F4A7C15L);
        this.lean = random.nextInt(LEANS);
        this.wrongness = new int[] {0, 3, 10, 40}[random.nextInt(isBent() ? 2 : 4)];
        this.zones = 1 + random.nextInt(8);
    }

    /** A number from 0 to most - 1, or now and then a wrong one. */
    private int some(int most) {
        if (random.nextInt(100) < wrongness) {
            int[] wrong = {-1, most, most + 1, -100, Integer.MIN_VALUE, Integer.MAX_VALUE};
            return wrong[random.nextInt(wrong.length)];
        }
        return random.nextInt(most);
    }

    private int someZone() {
        return some(100) < 0 ? -1 : some(100) >= 95 ? some(8) : random.nextInt(zones);
    }

    private String someOrder() {
        switch (random.nextInt(8)) {
            case 0: return "r" + random.nextInt(zones);
            case 1: return "f" + random.nextInt(zones);
            case 2: case 3: return "p" + (1 + random.nextInt(9));
            default: return random.nextInt(4) + ">" + random.nextInt(zones) + "=" + random.nextInt(100);
        }
    }

    private int types(String text) {
        int left = 0;
        for (char c : text.toCharArray()) {
            answers.due("type(" + (int) c + ")", x.type(c), model.type(c));
            left++;
        }
        return left;
    }

    private int typeSomeText() {
        if (random.nextInt(100) < wrongness) {
            return types("" + SIGNS.charAt(random.nextInt(SIGNS.length())));
        }
        StringBuilder text = new StringBuilder();
        int orders = 1 + random.nextInt(5);
        for (int i = 0; i < orders; i++) {
            text.append(i == 0 && random.nextInt(8) > 0 ? "" : ";").append(someOrder());
        }
        if (random.nextInt(6) == 0) {
            text.setCharAt(random.nextInt(text.length()), SIGNS.charAt(random.nextInt(SIGNS.length())));
        }
        if (random.nextInt(6) == 0) {
            text.setLength(random.nextInt(text.length() + 1));
        }
        answers.due("clearText()", x.clearText(), model.clearText());
        return 1 + types(text.toString());
    }

    /** Some runs are bent to the last append, or to the last tick, which others don't come near to. */
    private boolean isBent() {
        return lean >= MANY_APPENDS;
    }

    private int someKind() {
        boolean bent = isBent() && random.nextInt(100) < 85;
        if (bent && lean == MANY_APPENDS && model.count(7) < 198) {
            return random.nextInt(55);
        }
        if (bent && lean == MANY_TICKS && model.count(0) < 9900) {
            return 35 + random.nextInt(25);
        }
        return random.nextInt(100);
    }

    private int someTicks() {
        if (lean == 1 || lean == MANY_TICKS && model.count(0) < 9900) {
            return 99;
        }
        return lean == 0 ? some(99) + 1 : 1 + some(lean == MANY_TICKS ? 60 : 5);
    }

    private void oneAct() {
        int kind = someKind();
        if (kind < 40) {
            int w = some(4), z = someZone(), v = some(100);
            answers.due("append(" + w + ", " + z + ", " + v + ")", x.append(w, z, v), model.append(w, z, v));
        } else if (kind < 60) {
            int t = someTicks();
            answers.due("pass(" + t + ")", x.pass(t), model.pass(t));
        } else if (kind < 66) {
            int z = someZone();
            answers.due("reset(" + z + ")", x.reset(z), model.reset(z));
        } else if (kind < 69) {
            int z = someZone();
            answers.due("finish(" + z + ")", x.finish(z), model.finish(z));
        } else if (kind < 73) {
            int z = someZone();
            answers.due("close(" + z + ")", x.close(z), model.close(z));
        } else if (kind < 79) {
            int what = some(4), v = 1 + some(what == 3 ? 2 : what == 2 ? 5 : 9) - (what == 3 ? 1 : 0);
            answers.due("set(" + what + ", " + v + ")", x.set(what, v), model.set(what, v));
        } else if (kind < 84) {
            int z = someZone(), v = 1 + some(lean == 2 ? 3 : 16);
            boolean delay = random.nextBoolean();
            answers.due("setZone(" + z + ", " + delay + ", " + v + ")", x.setZone(z, delay, v), model.setZone(z, delay, v));
        } else if (kind < 88) {
            int w = some(4), v = 1 + some(9);
            answers.due("setWindow(" + w + ", " + v + ")", x.setWindow(w, v), model.setWindow(w, v));
        } else if (kind < 93) {
            answers.due("undo()", x.undo(), model.undo());
        } else if (kind < 95) {
            answers.due("keep()", x.keep(), model.keep());
        } else if (kind < 96) {
            answers.due("restore()", x.restore(), model.restore());
        } else {
            answers.due("follow()", x.follow(), model.follow());
        }
    }

    private void oneQuestion() {
        switch (random.nextInt(8)) {
            case 0: {
                int z = someZone(), p = some(10);
                answers.due("read(" + z + ", " + p + ")", x.read(z, p), model.read(z, p));
                break;
            }
            case 1: {
                int z = someZone(), what = some(9);
                answers.due("zone(" + z + ", " + what + ")", x.zone(z, what), model.zone(z, what));
                break;
            }
            case 2: {
                int a = some(model.count(7) + 1), what = some(8);
                answers.due("appended(" + a + ", " + what + ")", x.appended(a, what), model.appended(a, what));
                break;
            }
            case 3: {
                int w = some(4), what = some(6);
                answers.due("writer(" + w + ", " + what + ")", x.writer(w, what), model.writer(w, what));
                break;
            }
            case 4: {
                int r = some(model.count(10) + 1);
                answers.due("told(" + r + ")", x.told(r), model.told(r));
                break;
            }
            case 5: {
                int a = Math.max(some(model.count(7) + 1), model.count(7) - 1 - random.nextInt(6));
                answers.due("toldIn(" + a + ")", x.toldIn(a), model.toldIn(a));
                break;
            }
            case 6: {
                int z = someZone(), what = some(2);
                answers.due("would(" + z + ", " + what + ")", x.would(z, what), model.would(z, what));
                break;
            }
            default: {
                int what = some(16);
                answers.due("count(" + what + ")", x.count(what), model.count(what));
            }
        }
    }

    private void run() {
        int done = 0;
        while (done < CALLS && !answers.anyWrong()) {
            int kind = random.nextInt(20);
            if (kind == 0 && done + 40 < CALLS && (!isBent() || random.nextInt(4) == 0)) {
                done += typeSomeText();
                answers.due("follow()", x.follow(), model.follow());
            } else if (kind < (lean == 3 || isBent() ? 18 : 12)) {
                oneAct();
            } else {
                oneQuestion();
            }
            done++;
        }
        // Everything that can be asked, though it is beyond the calls that are promised: it shows more faults.
        for (int z = 0; z < 8; z++) {
            for (int what = 0; what < 9; what++) answers.due("at the end zone(" + z + ", " + what + ")", x.zone(z, what), model.zone(z, what));
            for (int p = 0; p < 17; p++) answers.due("at the end read(" + z + ", " + p + ")", x.read(z, p), model.read(z, p));
        }
        for (int a = 0; a <= model.count(7); a++) {
            for (int what = 0; what < 9; what++) answers.due("at the end appended(" + a + ", " + what + ")", x.appended(a, what), model.appended(a, what));
        }
        for (int w = 0; w < 4; w++) {
            for (int what = 0; what < 6; what++) answers.due("at the end writer(" + w + ", " + what + ")", x.writer(w, what), model.writer(w, what));
        }
        for (int r = 0; r <= model.count(10); r++) answers.due("at the end told(" + r + ")", x.told(r), model.told(r));
        for (int what = 0; what < 17; what++) answers.due("at the end count(" + what + ")", x.count(what), model.count(what));
    }

    public static void main(String[] args) {
        Answers answers = new Answers("ModelTest");
        int[] runsOfLean = new int[LEANS];
        int toLastAppend = 0;
        int toLastTick = 0;
        for (int run = 0; run < RUNS && !answers.anyWrong(); run++) {
            ModelTest test = new ModelTest(answers, 1000L + run);
            test.run();
            runsOfLean[test.lean]++;
            toLastAppend += test.model.count(7) == 200 ? 1 : 0;
            toLastTick += test.model.count(0) == 9999 ? 1 : 0;
            if (answers.anyWrong()) {
                System.out.println("ModelTest: in the run of the seed " + (1000 + run));
            }
        }
        // What the runs came to, lest the test grows blind when its numbers are changed.
        for (int lean = 0; lean < LEANS && !answers.anyWrong(); lean++) {
            answers.dueTrue("runs of the lean " + lean + ": " + runsOfLean[lean], runsOfLean[lean] > RUNS / 16);
        }
        answers.dueTrue("runs to the last append: " + toLastAppend, answers.anyWrong() || toLastAppend > 50);
        answers.dueTrue("runs to the last tick: " + toLastTick, answers.anyWrong() || toLastTick > 50);
        answers.end();
    }
}
