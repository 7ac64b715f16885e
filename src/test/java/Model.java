import java.math.BigInteger;
import java.util.ArrayList;
import java.util.Arrays;
import java.util.Collections;
import java.util.HashMap;
import java.util.LinkedList;
import java.util.List;
import java.util.Map;
import java.util.Set;
import java.util.TreeSet;
import java.util.regex.Matcher;
import java.util.regex.Pattern;

/** The document written once more, by other means and without regard to speed, to be compared with. */
final class Model {
    private static final int UNKNOWN = -1, OUTSIDE = -2, STATE = -3, FULL = -4, NO = -5, NONE = -6;
    private static final long GONE = -1000000000000000000L;
    private static final Pattern ACT = Pattern.compile("[A-H][\\^_]|[A-H]>[A-H][1-9]|x[A-H][A-H]|\\.");
    private static final Pattern YEARS = Pattern.compile("(?:" + ACT.pattern() + ")*");
    private static final String[] ENDINGS = {"", "^", "A1", "1", "AA", "A"};
    private static final Map<List<Integer>, Boolean> WINS = new HashMap<>();

    /** All but the pad. */
    private static final class World {
        Map<Character, Integer> wealth = new HashMap<>();
        Set<Character> in = new TreeSet<>();
        Map<String, Integer> gave = new HashMap<>();
        List<Character> map = new ArrayList<>();
        Set<String> kin = new TreeSet<>();
        List<int[]> sights = new ArrayList<>();
        int next;
        int year;

        World() {
            for (char h = 'A'; h <= 'H'; h++) {
                wealth.put(h, 50);
                map.add(h);
            }
        }

        World copy() {
            World w = new World();
            w.wealth = new HashMap<>(wealth);
            w.in = new TreeSet<>(in);
            w.gave = new HashMap<>(gave);
            w.map = new ArrayList<>(map);
            w.kin = new TreeSet<>(kin);
            w.sights = new ArrayList<>(sights);
            w.next = next;
            w.year = year;
            return w;
        }

        int bitsIn() {
            int bits = 0;
            for (char h : in) {
                bits += 1 << (h - 'A');
            }
            return bits;
        }

        int mapNumber() {
            StringBuilder digits = new StringBuilder();
            for (char h : map) {
                digits.append(h - 'A');
            }
            return Integer.parseInt(digits.toString());
        }

        int why(String act) {
            char one = act.charAt(0);
            if (act.equals(".")) {
                return year == 99 ? 5 : 0;
            }
            if (one == 'x') {
                return act.charAt(1) == act.charAt(2) ? 2 : 0;
            }
            switch (act.charAt(1)) {
                case '^':
                    return in.contains(one) ? 1 : 0;
                case '_':
                    return in.contains(one) ? 0 : 1;
                default:
                    char other = act.charAt(2);
                    if (one == other) {
                        return 2;
                    }
                    if (in.contains(one) || !in.contains(other)) {
                        return 3;
                    }
                    return wealth.get(one) < act.charAt(3) - '0' ? 4 : 0;
            }
        }

        void perform(String act) {
            char one = act.charAt(0);
            if (act.equals(".")) {
                in.clear();
                in.add(map.get(next));
                next = next == 7 ? 0 : next + 1;
                year++;
            } else if (one == 'x') {
                Collections.swap(map, map.indexOf(act.charAt(1)), map.indexOf(act.charAt(2)));
            } else if (act.charAt(1) == '^') {
                in.add(one);
            } else if (act.charAt(1) == '_') {
                in.remove(one);
            } else {
                char other = act.charAt(2);
                int much = act.charAt(3) - '0';
                wealth.put(one, wealth.get(one) - much);
                wealth.put(other, Math.min(999, wealth.get(other) + much));
                String pair = "" + one + other;
                gave.put(pair, Math.min(999, gave.getOrDefault(pair, 0) + much));
            }
        }
    }

    private World world = new World();
    private final World[] images = new World[2];
    private String text = "";

    private World then;
    private int wrongAct;
    private int reason;
    private int given;
    private int firstAct;
    private int firstHouse;

    private static boolean no(int v, int least, int most) {
        return v < least || v > most;
    }

    private static char letter(int house) {
        return (char) ('A' + house);
    }

    int house(int house, int wealth, int isIn) {
        if (no(house, 0, 7)) return UNKNOWN;
        if (no(wealth, 0, 999) || no(isIn, 0, 1)) return OUTSIDE;
        if (isIn == 1) world.in.add(letter(house)); else world.in.remove(letter(house));
        return world.wealth.put(letter(house), wealth);
    }

    int gave(int one, int other, int v) {
        if (no(one, 0, 7) || no(other, 0, 7) || one == other) return UNKNOWN;
        if (no(v, 0, 999)) return OUTSIDE;
        Integer before = world.gave.put("" + letter(one) + letter(other), v);
        return before == null ? 0 : before;
    }

    int map(int row, int next) {
        if (row < 0 || row > 99999999 || no(next, 0, 7)) return OUTSIDE;
        String digits = String.format("%08d", row);
        char[] sorted = digits.toCharArray();
        Arrays.sort(sorted);
        if (!new String(sorted).equals("01234567")) return OUTSIDE;
        int before = world.mapNumber() * 10 + world.next;
        world.map.clear();
        for (char digit : digits.toCharArray()) world.map.add(letter(digit - '0'));
        world.next = next;
        return before;
    }

    int kin(int one, int other, boolean is) {
        if (no(one, 0, 7) || no(other, 0, 7) || one == other) return UNKNOWN;
        String pair = "" + Math.min(one, other) + Math.max(one, other);
        if (is) world.kin.add(pair); else world.kin.remove(pair);
        return world.kin.size();
    }

    int say(int sign) {
        if (no(sign, 33, 126)) return OUTSIDE;
        if (text.length() == 60) return FULL;
        text += (char) sign;
        return text.length();
    }

    int wipe() {
        int before = text.length();
        text = "";
        return before;
    }

    private static boolean canGoOn(String start) {
        for (String ending : ENDINGS) {
            if (YEARS.matcher(start + ending).matches()) return true;
        }
        return false;
    }

    int fault() {
        for (int i = 0; i < text.length(); i++) {
            if (!canGoOn(text.substring(0, i + 1))) return i;
        }
        return YEARS.matcher(text).matches() ? NONE : text.length();
    }

    private List<String> acts() {
        List<String> acts = new ArrayList<>();
        Matcher m = ACT.matcher(text);
        while (m.find()) acts.add(m.group());
        return acts;
    }

    private int play() {
        if (fault() != NONE) return NO;
        then = world.copy();
        wrongAct = reason = firstAct = firstHouse = NONE;
        given = 0;
        List<String> acts = acts();
        for (int i = 0; i < acts.size(); i++) {
            String act = acts.get(i);
            int why = then.why(act);
            if (why != 0) {
                wrongAct = i;
                reason = why;
                return STATE;
            }
            if (firstAct == NONE && (act.equals(".") || act.endsWith("^"))) {
                firstAct = i;
                firstHouse = (act.equals(".") ? then.map.get(then.next) : act.charAt(0)) - 'A';
            }
            if (act.length() == 4) given += act.charAt(3) - '0';
            then.perform(act);
        }
        return 0;
    }

    int judge(int what) {
        if (no(what, 0, 2)) return OUTSIDE;
        int refusal = play();
        if (refusal == NO) return NO;
        if (what == 0) return wrongAct;
        if (what == 1) return reason;
        return refusal == STATE ? STATE : given;
    }

    int behind(int house, int what) {
        if (no(house, 0, 7)) return UNKNOWN;
        if (no(what, 0, 2)) return OUTSIDE;
        int refusal = play();
        if (refusal != 0) return refusal;
        if (what == 0) return then.wealth.get(letter(house));
        if (what == 1) return then.in.contains(letter(house)) ? 1 : 0;
        return then.map.indexOf(letter(house));
    }

    int parish(int what) {
        if (no(what, 0, 4)) return OUTSIDE;
        int refusal = play();
        if (refusal != 0) return refusal;
        if (what == 0) return then.bitsIn();
        if (what == 1) return then.wealth.values().stream().mapToInt(v -> v).sum();
        if (what == 2) return then.next;
        if (what == 3) return then.year;
        int least = Collections.min(then.wealth.values());
        for (char h : then.map) {
            if (then.wealth.get(h) == least) return h - 'A';
        }
        throw new IllegalStateException();
    }

    int first(int what) {
        if (no(what, 0, 1)) return OUTSIDE;
        int refusal = play();
        if (refusal != 0) return refusal;
        return what == 0 ? firstAct : firstHouse;
    }

    int done() {
        int refusal = play();
        if (refusal != 0) return refusal;
        int acts = acts().size();
        world = then;
        text = "";
        return acts;
    }

    private int owed(int house) {
        int sum = 0;
        for (Map.Entry<String, Integer> e : world.gave.entrySet()) {
            if (e.getKey().charAt(0) == letter(house)) sum += e.getValue();
            if (e.getKey().charAt(1) == letter(house)) sum -= e.getValue();
        }
        return sum;
    }

    int due(int house) {
        return no(house, 0, 7) ? UNKNOWN : 10000 + owed(house);
    }

    /** Puts the houses one by one into each group there is, or into a new one. */
    private static int mostGroups(int[] dues, int at, List<Integer> sums) {
        if (at == dues.length) {
            for (int sum : sums) {
                if (sum != 0) return Integer.MIN_VALUE;
            }
            return sums.size();
        }
        int most = Integer.MIN_VALUE;
        for (int g = 0; g < sums.size(); g++) {
            int sum = sums.get(g);
            sums.set(g, sum + dues[at]);
            most = Math.max(most, mostGroups(dues, at + 1, sums));
            sums.set(g, sum);
        }
        sums.add(dues[at]);
        most = Math.max(most, mostGroups(dues, at + 1, sums));
        sums.remove(sums.size() - 1);
        return most;
    }

    /** The first one who is not even settles with each other one in turn. */
    private static int fewestPayments(int[] dues, int from) {
        int at = from;
        while (at < dues.length && dues[at] == 0) at++;
        if (at == dues.length) return 0;
        int fewest = Integer.MAX_VALUE;
        for (int i = at + 1; i < dues.length; i++) {
            if (dues[i] != 0 && (dues[i] > 0) != (dues[at] > 0)) {
                dues[i] += dues[at];
                fewest = Math.min(fewest, 1 + fewestPayments(dues, at + 1));
                dues[i] -= dues[at];
            }
        }
        return fewest;
    }

    int even(int what) {
        if (no(what, 0, 1)) return OUTSIDE;
        int[] dues = new int[8];
        for (int h = 0; h < 8; h++) dues[h] = owed(h);
        dues = Arrays.stream(dues).filter(v -> v != 0).toArray();
        return what == 0 ? fewestPayments(dues, 0) : mostGroups(dues, 0, new ArrayList<>());
    }

    private void rows(String start, List<Integer> all) {
        if (start.length() == 8) all.add(Integer.parseInt(start));
        for (char h = '0'; h <= '7' && start.length() < 8; h++) {
            if (start.indexOf(h) >= 0) continue;
            char last = start.isEmpty() ? '9' : start.charAt(start.length() - 1);
            if (!world.kin.contains("" + h + last) && !world.kin.contains("" + last + h)) rows(start + h, all);
        }
    }

    int orders(int what) {
        if (no(what, 0, 1)) return OUTSIDE;
        List<Integer> all = new ArrayList<>();
        rows("", all);
        if (what == 0) return all.size();
        return all.isEmpty() ? NONE : Collections.min(all);
    }

    int ring(int n, int k, int i) {
        if (no(n, 1, 999) || no(k, 1, 99) || no(i, 0, n - 1)) return OUTSIDE;
        LinkedList<Integer> sitters = new LinkedList<>();
        for (int s = 0; s < n; s++) sitters.add(s);
        for (int gone = 0; ; gone++) {
            for (int told = 1; told < k; told++) sitters.addLast(sitters.removeFirst());
            int goes = sitters.removeFirst();
            if (gone == i) return goes;
        }
    }

    int count(int set, int v) {
        if (no(set, 0, 255) || no(v, 0, 8)) return OUTSIDE;
        if (world.sights.size() == 8) return FULL;
        world.sights.add(new int[] {set, v});
        return world.sights.size();
    }

    int forget() {
        int before = world.sights.size();
        world.sights.clear();
        return before;
    }

    private static int common(int a, int b) {
        int both = 0;
        for (int bit = 1; bit < 256; bit *= 2) {
            if (a / bit % 2 == 1 && b / bit % 2 == 1) both++;
        }
        return both;
    }

    private List<Integer> fitting() {
        List<Integer> fit = new ArrayList<>();
        for (int were = 0; were < 256; were++) {
            boolean fits = true;
            for (int[] sight : world.sights) fits &= common(sight[0], were) == sight[1];
            if (fits) fit.add(were);
        }
        return fit;
    }

    int ever(int i) {
        List<Integer> fit = fitting();
        if (i == -1) return fit.size();
        return i < 0 || i >= fit.size() ? NONE : fit.get(i);
    }

    int ask(int what) {
        if (no(what, 0, 1)) return OUTSIDE;
        List<Integer> fit = fitting();
        if (fit.isEmpty()) return NONE;
        int bestSet = -1;
        int best = Integer.MAX_VALUE;
        for (int set = 0; set < 256; set++) {
            int[] left = new int[9];
            for (int were : fit) left[common(set, were)]++;
            int most = Arrays.stream(left).max().getAsInt();
            if (most < best) {
                best = most;
                bestSet = set;
            }
        }
        return what == 0 ? bestSet : best;
    }

    /** Tries every move, down to an empty heap. */
    private static boolean wins(int a, int b) {
        if (a < b) return wins(b, a);
        if (b == 0) return false;
        List<Integer> heaps = List.of(a, b);
        Boolean known = WINS.get(heaps);
        if (known == null) {
            known = false;
            for (int take = b; take <= a && !known; take += b) known = !wins(a - take, b);
            WINS.put(heaps, known);
        }
        return known;
    }

    int crumbs(int a, int b, int what) {
        if (no(a, 0, 999) || no(b, 0, 999) || no(what, 0, 1)) return OUTSIDE;
        if (what == 0) return wins(a, b) ? 1 : 0;
        int greater = Math.max(a, b);
        int less = Math.min(a, b);
        for (int times = 1; less > 0 && times * less <= greater; times++) {
            if (!wins(greater - times * less, less)) return times;
        }
        return NONE;
    }

    /** Orders of n lots by how many draw their own: a new one keeps his own, or changes lots with another. */
    private static BigInteger[] ordersByOwn(int n) {
        BigInteger[] by = new BigInteger[n + 3];
        Arrays.fill(by, BigInteger.ZERO);
        by[0] = BigInteger.ONE;
        for (int size = 0; size < n; size++) {
            BigInteger[] more = new BigInteger[n + 3];
            Arrays.fill(more, BigInteger.ZERO);
            for (int own = 0; own <= size; own++) {
                more[own + 1] = more[own + 1].add(by[own]);
                if (own > 0) more[own - 1] = more[own - 1].add(by[own].multiply(BigInteger.valueOf(own)));
                more[own] = more[own].add(by[own].multiply(BigInteger.valueOf(size - own)));
            }
            by = more;
        }
        return by;
    }

    long lots(int n, int k, int what, int part) {
        if (no(n, 0, 12) || no(k, 0, n) || no(what, 0, 1) || no(part, 0, 1)) return GONE + OUTSIDE;
        BigInteger[] by = ordersByOwn(n);
        BigInteger all = BigInteger.ZERO;
        for (BigInteger some : by) all = all.add(some);
        BigInteger ways = by[k];
        for (int own = k + 1; what == 1 && own <= n; own++) ways = ways.add(by[own]);
        BigInteger told = part == 0 ? ways : all;
        return told.divide(all.gcd(ways)).longValueExact();
    }

    int century(int seed, int m, int what) {
        if (no(seed, 0, 9999) || no(m, 1, 99) || no(what, 0, 2)) return OUTSIDE;
        World w = world.copy();
        int gifts = 0;
        long x = seed;
        for (int i = 0; i < m; i++) {
            x = (75 * x + 74) % 65537;
            int z = (int) (x / 64);
            char one = letter((int) (x % 8));
            char other = letter(z % 8);
            int much = 1 + z / 8 % 9;
            String[] draws = {one + "^", one + "_", one + ">" + other + much, one + ">" + other + much,
                one + ">" + other + much, "x" + one + other, ".", "."};
            String act = draws[(int) (x / 8 % 8)];
            if (w.why(act) == 0) {
                w.perform(act);
                if (act.length() == 4) gifts += much;
            }
        }
        if (what == 0) return w.wealth.get('A');
        return what == 1 ? w.bitsIn() : gifts;
    }

    int image(int k) {
        if (no(k, 0, 1)) return OUTSIDE;
        images[k] = world.copy();
        return 1;
    }

    int restore(int k) {
        if (no(k, 0, 1)) return OUTSIDE;
        if (images[k] == null) return STATE;
        world = images[k].copy();
        return 1;
    }

    int told(int what) {
        switch (what) {
            case 0: return text.length();
            case 1: return world.bitsIn();
            case 2: return world.mapNumber();
            case 3: return world.next;
            case 4: return world.year;
            case 5: return world.sights.size();
            default: break;
        }
        int units = what % 10;
        if (what < 10 || units > 7 || what >= 180) return OUTSIDE;
        if (what < 20) return world.wealth.get(letter(units));
        if (what < 30) {
            int bits = 0;
            for (int h = 0; h < 8; h++) {
                if (world.kin.contains("" + h + units) || world.kin.contains("" + units + h)) bits += 1 << h;
            }
            return bits;
        }
        if (what < 100) return OUTSIDE;
        return world.gave.getOrDefault("" + letter(what / 10 % 10) + letter(units), 0);
    }
}
