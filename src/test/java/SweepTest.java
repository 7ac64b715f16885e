import java.util.ArrayList;
import java.util.List;
import java.util.Random;

/** Calls without a state over all their inputs or many, by plain counting; centuries against the same acts as texts. */
public final class SweepTest {
    private static final int NONE = -6;
    private static final Due due = new Due();
    private static PoorTurns x = new PoorTurns();
    private static int calls;

    /** An object is promised for 512 calls. */
    private static PoorTurns object() {
        calls++;
        if (calls % 512 == 0) {
            x = new PoorTurns();
        }
        return x;
    }

    /** How many times the less heap is taken first, from the smaller heaps up. */
    private static int[][] firstTakes() {
        int[][] takes = new int[1000][1000];
        for (int less = 0; less < 1000; less++) {
            for (int greater = less; greater < 1000; greater++) {
                int times = NONE;
                for (int t = 1; less > 0 && t * less <= greater && times == NONE; t++) {
                    int rest = greater - t * less;
                    times = takes[Math.min(rest, less)][Math.max(rest, less)] == NONE ? t : NONE;
                }
                takes[less][greater] = times;
            }
        }
        return takes;
    }

    private static void crumbs() {
        int[][] takes = firstTakes();
        for (int a = 0; a < 1000; a++) {
            for (int b = 0; b < 1000; b++) {
                int want = takes[Math.min(a, b)][Math.max(a, b)];
                due.is("crumbs " + a + " " + b + " 1", object().crumbs(a, b, 1), want);
                due.is("crumbs " + a + " " + b + " 0", object().crumbs(a, b, 0), want == NONE ? 0 : 1);
            }
        }
    }

    private static void rings() {
        for (int n = 1; n <= 999; n += n < 40 ? 1 : 137) {
            for (int k = 1; k <= 99; k++) {
                List<Integer> sitters = new ArrayList<>();
                for (int s = 0; s < n; s++) {
                    sitters.add(s);
                }
                int at = 0;
                for (int i = 0; i < n; i++) {
                    at = (at + k - 1) % sitters.size();
                    due.is("ring " + n + " " + k + " " + i, object().ring(n, k, i), sitters.remove(at));
                }
            }
        }
    }

    private static void countOrders(int n, int at, int drawn, int own, int[] byOwn) {
        if (at == n) {
            byOwn[own]++;
        }
        for (int lot = 0; lot < n && at < n; lot++) {
            if ((drawn >> lot & 1) == 0) {
                countOrders(n, at + 1, drawn | 1 << lot, own + (lot == at ? 1 : 0), byOwn);
            }
        }
    }

    private static long divisor(long a, long b) {
        return b == 0 ? a : divisor(b, a % b);
    }

    private static void fraction(int n, int k, int what, long ways, long all) {
        long by = divisor(all, ways);
        due.is("lots " + n + " " + k + " " + what + " 0", object().lots(n, k, what, 0), ways / by);
        due.is("lots " + n + " " + k + " " + what + " 1", object().lots(n, k, what, 1), all / by);
    }

    private static void lots() {
        for (int n = 0; n <= 9; n++) {
            int[] byOwn = new int[n + 1];
            countOrders(n, 0, 0, 0, byOwn);
            long all = 0;
            for (int ways : byOwn) {
                all += ways;
            }
            long atLeast = all;
            for (int k = 0; k <= n; k++) {
                fraction(n, k, 0, byOwn[k], all);
                fraction(n, k, 1, atLeast, all);
                atLeast -= byOwn[k];
            }
        }
    }

    private static String drawnAct(long drawn) {
        int z = (int) (drawn / 64);
        char one = (char) ('A' + drawn % 8);
        char other = (char) ('A' + z % 8);
        switch ((int) (drawn / 8 % 8)) {
            case 0: return one + "^";
            case 1: return one + "_";
            case 5: return "x" + one + other;
            case 6:
            case 7: return ".";
            default: return one + ">" + other + (z / 8 % 9 + 1);
        }
    }

    private static void drawParish(PoorTurns now, Random random) {
        for (int house = 0; house < 8; house++) {
            int most = random.nextInt(3) == 0 ? 10 : 1000;
            int wealth = random.nextInt(4) == 0 ? 999 - random.nextInt(10) : random.nextInt(most);
            now.house(house, wealth, random.nextInt(2));
        }
        now.map(random.nextBoolean() ? 76543210 : 31470256, random.nextInt(8));
    }

    /** The same acts one by one as texts, 60 of them at most: some seven calls each, within 512. */
    private static void century(Random random) {
        PoorTurns now = new PoorTurns();
        drawParish(now, random);
        int seed = random.nextInt(10000);
        int m = 1 + random.nextInt(60);
        int[] told = {now.century(seed, m, 0), now.century(seed, m, 1), now.century(seed, m, 2)};
        int given = 0;
        long drawn = seed;
        for (int act = 0; act < m; act++) {
            drawn = (75 * drawn + 74) % 65537;
            Make.write(now, drawnAct(drawn));
            given += Math.max(0, now.judge(2));
            now.done();
            now.wipe();
        }
        String which = "century " + seed + " " + m;
        due.is(which + " wealth", told[0], now.told(10));
        due.is(which + " in", told[1], now.told(1));
        due.is(which + " given", told[2], given);
    }

    public static void main(String[] args) {
        crumbs();
        rings();
        lots();
        Random random = new Random(5);
        for (int run = 0; run < 2000; run++) {
            century(random);
        }
        due.end();
    }
}
