import java.util.Arrays;

/** Looks at all that an object tells of its state, so that two objects of the same state look alike. */
final class Looks {
    /** Of many appends the latest ones alone are looked at, so that a look stays far below 512 calls. */
    private static final int LATEST = 7;

    private final int[] seen = new int[512];
    private int count = 0;

    private void see(int answer) {
        seen[count] = answer;
        count++;
    }

    /** All questions but those for the text and the history, which are no part of a state; they change nothing. */
    static int[] at(AppendZones x) {
        Looks looks = new Looks();
        looks.atAll(x);
        return Arrays.copyOf(looks.seen, looks.count);
    }

    /** All questions, and then what the text, the history and the snapshot hold; these are used up by that. */
    static int[] behind(AppendZones x) {
        Looks looks = new Looks();
        looks.atAll(x);
        looks.see(x.count(14));
        looks.see(x.count(15));
        looks.see(x.follow());
        looks.see(x.count(0));
        for (int i = 0; i < 5; i++) {
            looks.see(x.undo());
            looks.atSome(x);
        }
        looks.see(x.restore());
        looks.atSome(x);
        return Arrays.copyOf(looks.seen, looks.count);
    }

    /** Whether two objects are in the same state, with the same text, history and snapshot; uses both up. */
    static boolean alikeToTheEnd(AppendZones x, AppendZones y) {
        return Arrays.equals(behind(x), behind(y));
    }

    static boolean alike(AppendZones x, AppendZones y) {
        return Arrays.equals(at(x), at(y));
    }

    private void atSome(AppendZones x) {
        see(x.count(0));
        see(x.count(7));
        see(x.count(9));
        see(x.count(10));
    }

    private void atAll(AppendZones x) {
        for (int zone = 0; zone < 8; zone++) {
            for (int what = 0; what < 9; what++) see(x.zone(zone, what));
            int pointer = x.zone(zone, 3);
            for (int place = 0; place <= pointer; place++) see(x.read(zone, place));
            for (int what = 0; what < 2; what++) see(x.would(zone, what));
        }
        for (int writer = 0; writer < 4; writer++) {
            for (int what = 0; what < 6; what++) see(x.writer(writer, what));
        }
        int appends = x.count(7);
        for (int append = Math.max(0, appends - LATEST); append <= appends; append++) {
            for (int what = 0; what < 8; what++) see(x.appended(append, what));
            see(x.toldIn(append));
        }
        int told = x.count(10);
        for (int rank = Math.max(0, told - LATEST); rank <= told; rank++) see(x.told(rank));
        for (int what = 0; what < 14; what++) see(x.count(what));
    }
}
