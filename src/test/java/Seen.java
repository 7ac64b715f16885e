import java.util.ArrayList;
import java.util.List;

/** All that can be seen of an object, its images too; the object is used up by it (some 330 calls). */
final class Seen {
    private static void told(PoorTurns x, List<Long> seen) {
        for (int what = 0; what <= 5; what++) {
            seen.add((long) x.told(what));
        }
        for (int one = 0; one < 8; one++) {
            seen.add((long) x.told(10 + one));
            seen.add((long) x.told(20 + one));
            for (int other = 0; other < 8; other++) {
                seen.add((long) x.told(100 + 10 * one + other));
            }
        }
        for (int i = -1; i <= 2; i++) {
            seen.add((long) x.ever(i));
        }
    }

    private static void text(PoorTurns x, List<Long> seen) {
        seen.add((long) x.fault());
        for (int what = 0; what <= 2; what++) {
            seen.add((long) x.judge(what));
        }
        for (int what = 0; what <= 4; what++) {
            seen.add((long) x.parish(what));
        }
        seen.add((long) x.first(0));
        seen.add((long) x.first(1));
        for (int house = 0; house < 8; house++) {
            seen.add((long) x.behind(house, 0));
            seen.add((long) x.behind(house, 2));
        }
    }

    static List<Long> of(PoorTurns x) {
        List<Long> seen = new ArrayList<>();
        told(x, seen);
        text(x, seen);
        for (int k = 0; k <= 1; k++) {
            seen.add((long) x.restore(k));
            told(x, seen);
        }
        return seen;
    }

    private Seen() {
    }
}
