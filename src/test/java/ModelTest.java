import java.util.Random;

/** Drawn runs of calls, each answer compared with the model's. The draws are the same each time. */
public final class ModelTest {
    private static final int[] ODD = {-1, -2, Integer.MIN_VALUE, Integer.MAX_VALUE, 1000, 256, 12345};
    private final Due due;
    private final Random random;
    private final PoorTurns x = new PoorTurns();
    private final Model m = new Model();
    private int calls;

    private ModelTest(Due due, long seed) {
        this.due = due;
        this.random = new Random(seed);
    }

    private void is(String call, long got, long want) {
        calls++;
        due.is(call, got, want);
    }

    /** A number from 0 to most, at times one beside it or an odd one. */
    private int number(int most) {
        int draw = random.nextInt(40);
        if (draw == 0) return most + 1;
        if (draw == 1) return -1;
        if (draw == 2) return ODD[random.nextInt(ODD.length)];
        if (draw == 3) return most;
        if (draw == 4) return 0;
        return random.nextInt(most + 1);
    }

    private char letter() {
        return (char) ('A' + random.nextInt(8));
    }

    private String act() {
        switch (random.nextInt(7)) {
            case 0: return letter() + "^";
            case 1: return letter() + "_";
            case 2: return "x" + letter() + letter();
            case 3: return ".";
            default: return letter() + ">" + letter() + (1 + random.nextInt(9));
        }
    }

    private void say(int sign) {
        is("say " + sign, x.say(sign), m.say(sign));
    }

    private void sayAct() {
        String act = act();
        for (int i = 0; i < act.length(); i++) {
            say(act.charAt(i));
        }
    }

    /** Acts that can be, one by one, taken back if they can not. */
    private void doActs() {
        for (int i = 0; i < 6; i++) {
            sayAct();
            is("judge(0)", x.judge(0), m.judge(0));
            is("judge(1)", x.judge(1), m.judge(1));
            is("done", x.done(), m.done());
            is("wipe", x.wipe(), m.wipe());
        }
    }

    private void change() {
        int a = number(7);
        int b = number(7);
        switch (random.nextInt(10)) {
            case 0:
            case 1: {
                int wealth = random.nextInt(3) == 0 ? 990 + random.nextInt(10) : number(random.nextBoolean() ? 9 : 999);
                int in = number(1);
                is("house", x.house(a, wealth, in), m.house(a, wealth, in));
                break;
            }
            case 2:
            case 3: {
                int v = random.nextInt(3) == 0 ? 990 + random.nextInt(10) : number(random.nextBoolean() ? 5 : 999);
                is("gave", x.gave(a, b, v), m.gave(a, b, v));
                break;
            }
            case 4: {
                int row = row();
                is("map " + row, x.map(row, a), m.map(row, a));
                break;
            }
            case 5:
            case 6: {
                boolean is = random.nextInt(4) != 0;
                is("kin", x.kin(a, b, is), m.kin(a, b, is));
                break;
            }
            case 7: {
                int set = number(255);
                int v = random.nextInt(3) == 0 ? number(8) : Integer.bitCount(set & 90);
                is("count", x.count(set, v), m.count(set, v));
                break;
            }
            case 8: {
                int k = number(1);
                is("image", x.image(k), m.image(k));
                break;
            }
            default: {
                int k = number(1);
                is("restore", x.restore(k), m.restore(k));
                break;
            }
        }
    }

    private int row() {
        if (random.nextInt(6) == 0) {
            return number(76543210);
        }
        StringBuilder digits = new StringBuilder("01234567");
        for (int i = 7; i > 0; i--) {
            int j = random.nextInt(i + 1);
            char c = digits.charAt(i);
            digits.setCharAt(i, digits.charAt(j));
            digits.setCharAt(j, c);
        }
        if (random.nextInt(8) == 0) {
            digits.setCharAt(random.nextInt(8), (char) ('0' + random.nextInt(10)));
        }
        return Integer.parseInt(digits.toString());
    }

    private void write() {
        switch (random.nextInt(8)) {
            case 0:
                say(number(140));
                break;
            case 1:
                say("ABH^_>19x.".charAt(random.nextInt(10)));
                break;
            case 2:
                is("wipe", x.wipe(), m.wipe());
                break;
            case 3:
                is("done", x.done(), m.done());
                break;
            case 4:
                doActs();
                break;
            case 5:
                if (random.nextInt(3) == 0) is("forget", x.forget(), m.forget());
                break;
            default:
                sayAct();
                break;
        }
    }

    private void askText() {
        int house = number(7);
        int what = number(4);
        is("fault", x.fault(), m.fault());
        is("judge " + what, x.judge(what), m.judge(what));
        is("behind " + what, x.behind(house, what), m.behind(house, what));
        is("parish " + what, x.parish(what), m.parish(what));
        is("first " + what, x.first(what), m.first(what));
    }

    private void askNow() {
        int house = number(7);
        int what = number(1);
        switch (random.nextInt(9)) {
            case 0:
            case 1:
                is("due", x.due(house), m.due(house));
                is("even " + what, x.even(what), m.even(what));
                break;
            case 2:
                is("orders " + what, x.orders(what), m.orders(what));
                break;
            case 3: {
                int n = number(random.nextBoolean() ? 20 : 999);
                int k = number(99);
                int i = number(Math.max(0, Math.min(999, n - 1)));
                is("ring", x.ring(n, k, i), m.ring(n, k, i));
                break;
            }
            case 4: {
                int i = number(random.nextBoolean() ? 10 : 255);
                is("ever " + i, x.ever(i), m.ever(i));
                is("ever -1", x.ever(-1), m.ever(-1));
                is("ask " + what, x.ask(what), m.ask(what));
                break;
            }
            case 5: {
                int a = number(999);
                int b = number(999);
                is("crumbs " + a + " " + b, x.crumbs(a, b, what), m.crumbs(a, b, what));
                break;
            }
            case 6: {
                int n = number(12);
                int k = number(Math.max(0, Math.min(12, n)));
                int part = number(1);
                is("lots " + n + " " + k, x.lots(n, k, what, part), m.lots(n, k, what, part));
                break;
            }
            default: {
                int seed = number(9999);
                int acts = number(99);
                int which = number(2);
                is("century", x.century(seed, acts, which), m.century(seed, acts, which));
                break;
            }
        }
    }

    /** An object is promised for 512 calls: a step takes some fifty at most, the end of a run 183. */
    private void run() {
        while (calls < 270) {
            int draw = random.nextInt(10);
            if (draw < 3) change();
            else if (draw < 6) write();
            else if (draw < 8) askText();
            else askNow();
            int told = number(180);
            is("told " + told, x.told(told), m.told(told));
        }
        for (int told = -1; told <= 181; told++) {
            is("told " + told, x.told(told), m.told(told));
        }
    }

    /** A new object each 512 calls, for calls that change nothing. */
    private static final class Fresh {
        private PoorTurns x;
        private int calls;

        PoorTurns object() {
            if (calls % 512 == 0) {
                x = new PoorTurns();
            }
            calls++;
            return x;
        }
    }

    private static void sweep(Due due) {
        Fresh fresh = new Fresh();
        Model m = new Model();
        for (int n = -1; n <= 13; n++) {
            for (int k = -1; k <= 13; k++) {
                for (int w = 0; w < 4; w++) {
                    long got = fresh.object().lots(n, k, w / 2, w % 2);
                    due.is("lots " + n + " " + k + " " + w, got, m.lots(n, k, w / 2, w % 2));
                }
            }
        }
        for (int a = 0; a < 1000; a += 3) {
            for (int b = 0; b < 1000; b += 7) {
                due.is("crumbs " + a + " " + b, fresh.object().crumbs(a, b, 0), m.crumbs(a, b, 0));
                due.is("crumbs " + a + " " + b, fresh.object().crumbs(a, b, 1), m.crumbs(a, b, 1));
            }
        }
        for (int n = 1; n <= 30; n++) {
            for (int k = 1; k <= 99; k += 2) {
                for (int i = 0; i < n; i++) {
                    due.is("ring " + n + " " + k + " " + i, fresh.object().ring(n, k, i), m.ring(n, k, i));
                }
            }
        }
        for (int seed = 0; seed < 10000; seed += 37) {
            for (int what = 0; what < 3; what++) {
                due.is("century " + seed, fresh.object().century(seed, 99, what), m.century(seed, 99, what));
            }
        }
    }

    /** Many kin, few orders; small gifts, many groups. */
    private static void sweepPairs(Due due, long seed) {
        Random random = new Random(seed);
        PoorTurns x = new PoorTurns();
        Model m = new Model();
        int share = 1 + random.nextInt(9);
        for (int pair = 0; pair < 64; pair++) {
            int one = pair / 8;
            int other = pair % 8;
            boolean is = random.nextInt(10) < share;
            int v = random.nextInt(3) == 0 ? random.nextInt(share) : 0;
            due.is("kin " + seed, x.kin(one, other, is), m.kin(one, other, is));
            due.is("gave " + seed, x.gave(one, other, v), m.gave(one, other, v));
        }
        for (int what = 0; what < 2; what++) {
            due.is("orders " + seed, x.orders(what), m.orders(what));
            due.is("even " + seed, x.even(what), m.even(what));
        }
    }

    public static void main(String[] args) {
        Due due = new Due();
        sweep(due);
        for (int seed = 0; seed < 300; seed++) {
            sweepPairs(due, seed);
        }
        for (int seed = 0; seed < 600; seed++) {
            new ModelTest(due, seed).run();
        }
        due.end();
    }
}
