/** A parish whose eight households are poor by turns; what each call answers stands in DOC.md. */
public final class PoorTurns {
    public static final int UNKNOWN = -1, OUTSIDE = -2, STATE = -3, FULL = -4, NO = -5, NONE = -6;
    public static final long GONE = -1000000000000000000L;

    private static final int HOUSES = 8;
    private static final int ALL_SETS = 256;
    private static final int EVERYONE = 255;
    private static final int MOST = 999;
    private static final int WEALTH_AT_FIRST = 50;
    private static final int LAST_YEAR = 99;
    private static final int DUE_SHIFT = 10000;
    private static final int PAD_SIGNS = 60;
    private static final int MOST_SIGHTS = 8;
    private static final int MOST_LOTS = 12;
    private static final int ALLOWED = 0;

    private static final int GO_IN = 0;
    private static final int COME_OUT = 1;
    private static final int GIVE = 2;
    private static final int CHANGE = 3;
    private static final int YEAR = 4;

    private static final long[] FACTORIALS = {
        1L, 1L, 2L, 6L, 24L, 120L, 720L, 5040L, 40320L, 362880L, 3628800L, 39916800L, 479001600L
    };
    /** How many orders of so many lots give nobody his own. */
    private static final long[] STRANGERS = {
        1L, 0L, 1L, 2L, 9L, 44L, 265L, 1854L, 14833L, 133496L, 1334961L, 14684570L, 176214841L
    };

    private final Parish parish = new Parish();
    private final Kinship kinship = new Kinship();
    private final Sights sights = new Sights();
    private final Pad pad = new Pad();
    private final Trial trial = new Trial();
    private final Evening evening = new Evening();
    private final Rows rows = new Rows();
    private final Guess guess = new Guess();
    private final Image imageZero = new Image();
    private final Image imageOne = new Image();

    public PoorTurns() {
    }

    // ---- 1 houses, the map, kin

    public int house(int house, int wealth, int isIn) {
        if (!isHouse(house)) {
            return UNKNOWN;
        }
        if (!within(wealth, 0, MOST) || !within(isIn, 0, 1)) {
            return OUTSIDE;
        }
        int before = parish.wealth[house];
        parish.wealth[house] = wealth;
        parish.setIn(house, isIn == 1);
        return before;
    }

    public int gave(int one, int other, int v) {
        if (!areTwoHouses(one, other)) {
            return UNKNOWN;
        }
        if (!within(v, 0, MOST)) {
            return OUTSIDE;
        }
        int before = parish.given[one * HOUSES + other];
        parish.given[one * HOUSES + other] = v;
        return before;
    }

    public int map(int row, int next) {
        if (!isRow(row) || !within(next, 0, HOUSES - 1)) {
            return OUTSIDE;
        }
        int before = parish.rowNumber() * 10 + parish.next;
        parish.setRow(row);
        parish.next = next;
        return before;
    }

    public int kin(int one, int other, boolean is) {
        if (!areTwoHouses(one, other)) {
            return UNKNOWN;
        }
        kinship.set(one, other, is);
        return kinship.pairs();
    }

    public int say(int sign) {
        if (!within(sign, 33, 126)) {
            return OUTSIDE;
        }
        if (pad.signs >= PAD_SIGNS) {
            return FULL;
        }
        pad.hear(sign);
        return pad.signs;
    }

    public int wipe() {
        int before = pad.signs;
        pad.clear();
        return before;
    }

    public int fault() {
        return pad.faultPlace();
    }

    // ---- 2 years

    public int judge(int what) {
        if (!within(what, 0, 2)) {
            return OUTSIDE;
        }
        int refusal = tryText();
        if (refusal == NO || (what == 2 && refusal == STATE)) {
            return refusal;
        }
        switch (what) {
            case 0:
                return trial.wrongAct;
            case 1:
                return trial.reason;
            default:
                return trial.gifts;
        }
    }

    public int behind(int house, int what) {
        if (!isHouse(house)) {
            return UNKNOWN;
        }
        if (!within(what, 0, 2)) {
            return OUTSIDE;
        }
        int refusal = tryText();
        if (refusal != ALLOWED) {
            return refusal;
        }
        switch (what) {
            case 0:
                return trial.parish.wealth[house];
            case 1:
                return trial.parish.isIn(house) ? 1 : 0;
            default:
                return trial.parish.placeOf(house);
        }
    }

    public int parish(int what) {
        if (!within(what, 0, 4)) {
            return OUTSIDE;
        }
        int refusal = tryText();
        if (refusal != ALLOWED) {
            return refusal;
        }
        switch (what) {
            case 0:
                return trial.parish.inside;
            case 1:
                return trial.parish.wealthInAll();
            case 2:
                return trial.parish.next;
            case 3:
                return trial.parish.year;
            default:
                return trial.parish.poorest();
        }
    }

    public int first(int what) {
        if (!within(what, 0, 1)) {
            return OUTSIDE;
        }
        int refusal = tryText();
        if (refusal != ALLOWED) {
            return refusal;
        }
        return what == 0 ? trial.firstAct : trial.firstHouse;
    }

    public int done() {
        int refusal = tryText();
        if (refusal != ALLOWED) {
            return refusal;
        }
        int acts = pad.acts;
        parish.copyFrom(trial.parish);
        pad.clear();
        return acts;
    }

    public int due(int house) {
        if (!isHouse(house)) {
            return UNKNOWN;
        }
        return parish.dueOf(house) + DUE_SHIFT;
    }

    // ---- 3 even, orders, rings

    public int even(int what) {
        if (!within(what, 0, 1)) {
            return OUTSIDE;
        }
        evening.work(parish);
        return what == 0 ? evening.payments() : evening.groups();
    }

    public int orders(int what) {
        if (!within(what, 0, 1)) {
            return OUTSIDE;
        }
        rows.work(kinship);
        return what == 0 ? rows.howMany() : rows.least(kinship);
    }

    public int ring(int n, int k, int i) {
        if (!within(n, 1, 999) || !within(k, 1, 99) || !within(i, 0, n - 1)) {
            return OUTSIDE;
        }
        return placeOfLeaver(n - i, n, k);
    }

    // ---- 4 who was, crumbs, lots

    public int count(int set, int v) {
        if (!within(set, 0, EVERYONE) || !within(v, 0, HOUSES)) {
            return OUTSIDE;
        }
        if (sights.size >= MOST_SIGHTS) {
            return FULL;
        }
        sights.add(set, v);
        return sights.size;
    }

    public int forget() {
        int before = sights.size;
        sights.size = 0;
        return before;
    }

    public int ever(int i) {
        guess.findFitting(sights);
        if (i == -1) {
            return guess.size;
        }
        return within(i, 0, guess.size - 1) ? guess.fitting[i] : NONE;
    }

    public int ask(int what) {
        if (!within(what, 0, 1)) {
            return OUTSIDE;
        }
        guess.findFitting(sights);
        guess.findQuestion();
        return what == 0 ? guess.question : guess.left;
    }

    public int crumbs(int a, int b, int what) {
        if (!within(a, 0, MOST) || !within(b, 0, MOST) || !within(what, 0, 1)) {
            return OUTSIDE;
        }
        if (what == 0) {
            return canWin(a, b) ? 1 : 0;
        }
        return winningTimes(Math.max(a, b), Math.min(a, b));
    }

    public long lots(int n, int k, int what, int part) {
        if (!within(n, 0, MOST_LOTS) || !within(k, 0, n) || !within(what, 0, 1) || !within(part, 0, 1)) {
            return GONE + OUTSIDE;
        }
        long ways = 0;
        int last = what == 0 ? k : n;
        for (int own = k; own <= last; own++) {
            ways += waysToDraw(n, own);
        }
        long all = FACTORIALS[n];
        long divisor = commonDivisor(all, ways);
        if (divisor <= 0) {
            divisor = 1;
        }
        return part == 0 ? ways / divisor : all / divisor;
    }

    public int century(int seed, int m, int what) {
        if (!within(seed, 0, 9999) || !within(m, 1, 99) || !within(what, 0, 2)) {
            return OUTSIDE;
        }
        trial.begin(parish);
        int x = seed;
        for (int act = 0; act < m; act++) {
            x = (75 * x + 74) % 65537;
            drawAct(x);
        }
        switch (what) {
            case 0:
                return trial.parish.wealth[0];
            case 1:
                return trial.parish.inside;
            default:
                return trial.gifts;
        }
    }

    public int image(int k) {
        if (!within(k, 0, 1)) {
            return OUTSIDE;
        }
        Image image = k == 0 ? imageZero : imageOne;
        image.parish.copyFrom(parish);
        image.kinship.copyFrom(kinship);
        image.sights.copyFrom(sights);
        image.kept = true;
        return 1;
    }

    public int restore(int k) {
        if (!within(k, 0, 1)) {
            return OUTSIDE;
        }
        Image image = k == 0 ? imageZero : imageOne;
        if (!image.kept) {
            return STATE;
        }
        parish.copyFrom(image.parish);
        kinship.copyFrom(image.kinship);
        sights.copyFrom(image.sights);
        return 1;
    }

    public int told(int what) {
        if (within(what, 0, 5)) {
            return toldInAll(what);
        }
        if (within(what, 10, 17)) {
            return parish.wealth[what - 10];
        }
        if (within(what, 20, 27)) {
            return kinship.of[what - 20];
        }
        if (within(what, 100, 177) && what % 10 < HOUSES) {
            return parish.given[(what - 100) / 10 * HOUSES + what % 10];
        }
        return OUTSIDE;
    }

    private int toldInAll(int what) {
        switch (what) {
            case 0:
                return pad.signs;
            case 1:
                return parish.inside;
            case 2:
                return parish.rowNumber();
            case 3:
                return parish.next;
            case 4:
                return parish.year;
            default:
                return sights.size;
        }
    }

    /** Plays the text on a copy of the parish: ALLOWED, or the refusal of calls that need a text that can be. */
    private int tryText() {
        if (pad.faultPlace() != NONE) {
            return NO;
        }
        trial.play(pad, parish);
        return trial.wrongAct == NONE ? ALLOWED : STATE;
    }

    private void drawAct(int x) {
        int house = x % 8;
        int draw = x / 8 % 8;
        int z = x / 64;
        if (draw == 0) {
            trial.attempt(GO_IN, house, house, 0);
        } else if (draw == 1) {
            trial.attempt(COME_OUT, house, house, 0);
        } else if (draw <= 4) {
            trial.attempt(GIVE, house, z % 8, z / 8 % 9 + 1);
        } else if (draw == 5) {
            trial.attempt(CHANGE, house, z % 8, 0);
        } else {
            trial.attempt(YEAR, house, house, 0);
        }
    }

    private static boolean within(int v, int least, int most) {
        return v >= least && v <= most;
    }

    private static boolean isHouse(int house) {
        return house >= 0 && house < HOUSES;
    }

    private static boolean areTwoHouses(int one, int other) {
        return isHouse(one) && isHouse(other) && one != other;
    }

    private static boolean isRow(int row) {
        if (row < 0) {
            return false;
        }
        int rest = row;
        int seen = 0;
        for (int place = 0; place < HOUSES; place++) {
            int digit = rest % 10;
            if (digit >= HOUSES) {
                return false;
            }
            seen |= 1 << digit;
            rest /= 10;
        }
        return rest == 0 && seen == EVERYONE;
    }

    /** Seen from the ring as it is when the one sought goes; then those gone before are put back, one at a time. */
    private static int placeOfLeaver(int left, int atFirst, int k) {
        if (left < 1) {
            return NONE;
        }
        int place = (k - 1) % left;
        for (int sitters = left + 1; sitters <= atFirst; sitters++) {
            place = (place + k) % sitters;
        }
        return place;
    }

    private static boolean canWin(int a, int b) {
        int greater = Math.max(a, b);
        int less = Math.min(a, b);
        boolean beginnerMoves = true;
        for (int turn = 0; turn <= MOST && less > 0; turn++) {
            // Who may take more than once the less heap chooses who meets what is left of the greater one.
            if (greater / less >= 2) {
                return beginnerMoves;
            }
            int rest = greater - less;
            greater = less;
            less = rest;
            beginnerMoves = !beginnerMoves;
        }
        return !beginnerMoves;
    }

    private static int winningTimes(int greater, int less) {
        if (less <= 0) {
            return NONE;
        }
        for (int times = 1; times <= greater / less; times++) {
            if (!canWin(greater - times * less, less)) {
                return times;
            }
        }
        return NONE;
    }

    /** In how many orders of n lots just so many, own, draw their own. */
    private static long waysToDraw(int n, int own) {
        if (!within(n, 0, MOST_LOTS) || !within(own, 0, n)) {
            return 0;
        }
        long alike = FACTORIALS[own] * FACTORIALS[n - own];
        return alike < 1 ? 0 : FACTORIALS[n] / alike * STRANGERS[n - own];
    }

    private static long commonDivisor(long one, long other) {
        long a = one;
        long b = other;
        for (int step = 0; step < 1000 && b != 0; step++) {
            long rest = a % b;
            a = b;
            b = rest;
        }
        return a;
    }

    /** All that ACTS change. */
    private static final class Parish {
        private final int[] wealth = new int[HOUSES];
        /** What one gave another one, at 8 times the giver and the other one. */
        private final int[] given = new int[HOUSES * HOUSES];
        private final int[] row = new int[HOUSES];
        private int inside;
        private int next;
        private int year;

        private Parish() {
            for (int house = 0; house < HOUSES; house++) {
                wealth[house] = WEALTH_AT_FIRST;
                row[house] = house;
            }
        }

        private void copyFrom(Parish from) {
            System.arraycopy(from.wealth, 0, wealth, 0, HOUSES);
            System.arraycopy(from.given, 0, given, 0, HOUSES * HOUSES);
            System.arraycopy(from.row, 0, row, 0, HOUSES);
            inside = from.inside;
            next = from.next;
            year = from.year;
        }

        private boolean isIn(int house) {
            return (inside >> house & 1) == 1;
        }

        private void setIn(int house, boolean is) {
            inside = is ? inside | 1 << house : inside & ~(1 << house);
        }

        private int wealthOf(int house) {
            return house >= 0 && house < HOUSES ? wealth[house] : 0;
        }

        private int houseAtNext() {
            return next >= 0 && next < HOUSES ? row[next] : row[0];
        }

        private int rowNumber() {
            int number = 0;
            for (int place = 0; place < HOUSES; place++) {
                number = number * 10 + row[place];
            }
            return number;
        }

        private void setRow(int number) {
            int rest = number;
            for (int place = HOUSES - 1; place >= 0; place--) {
                row[place] = rest % 10;
                rest /= 10;
            }
        }

        private int placeOf(int house) {
            for (int place = 0; place < HOUSES; place++) {
                if (row[place] == house) {
                    return place;
                }
            }
            return NONE;
        }

        private int wealthInAll() {
            int sum = 0;
            for (int house = 0; house < HOUSES; house++) {
                sum += wealth[house];
            }
            return sum;
        }

        private int poorest() {
            int least = row[0];
            for (int place = 1; place < HOUSES; place++) {
                if (wealthOf(row[place]) < wealthOf(least)) {
                    least = row[place];
                }
            }
            return least;
        }

        private int dueOf(int house) {
            int sum = 0;
            for (int other = 0; other < HOUSES; other++) {
                sum += given[house * HOUSES + other] - given[other * HOUSES + house];
            }
            return sum;
        }

        /** The least reason for which an ACT can not be, or ALLOWED. */
        private int reasonAgainst(int kind, int one, int other, int much) {
            switch (kind) {
                case GO_IN:
                    return isIn(one) ? 1 : ALLOWED;
                case COME_OUT:
                    return isIn(one) ? ALLOWED : 1;
                case GIVE:
                    return reasonAgainstGift(one, other, much);
                case CHANGE:
                    return one == other ? 2 : ALLOWED;
                default:
                    return year >= LAST_YEAR ? 5 : ALLOWED;
            }
        }

        private int reasonAgainstGift(int one, int other, int much) {
            if (one == other) {
                return 2;
            }
            if (isIn(one) || !isIn(other)) {
                return 3;
            }
            return wealthOf(one) < much ? 4 : ALLOWED;
        }

        private void perform(int kind, int one, int other, int much) {
            switch (kind) {
                case GO_IN:
                    setIn(one, true);
                    break;
                case COME_OUT:
                    setIn(one, false);
                    break;
                case GIVE:
                    hand(one, other, much);
                    break;
                case CHANGE:
                    changePlaces(one, other);
                    break;
                default:
                    passYear();
                    break;
            }
        }

        private void hand(int one, int other, int much) {
            if (one < 0 || one >= HOUSES || other < 0 || other >= HOUSES) {
                return;
            }
            wealth[one] -= much;
            wealth[other] = Math.min(wealth[other] + much, MOST);
            int account = one * HOUSES + other;
            given[account] = Math.min(given[account] + much, MOST);
        }

        private void changePlaces(int one, int other) {
            for (int place = 0; place < HOUSES; place++) {
                if (row[place] == one) {
                    row[place] = other;
                } else if (row[place] == other) {
                    row[place] = one;
                }
            }
        }

        private void passYear() {
            inside = 1 << houseAtNext();
            next = (next + 1) % HOUSES;
            year++;
        }
    }

    /** Who is kin to whom: a set for each house. */
    private static final class Kinship {
        private final int[] of = new int[HOUSES];

        private void copyFrom(Kinship from) {
            System.arraycopy(from.of, 0, of, 0, HOUSES);
        }

        private void set(int one, int other, boolean is) {
            if (is) {
                of[one] |= 1 << other;
                of[other] |= 1 << one;
            } else {
                of[one] &= ~(1 << other);
                of[other] &= ~(1 << one);
            }
        }

        private int pairs() {
            int ends = 0;
            for (int house = 0; house < HOUSES; house++) {
                ends += Integer.bitCount(of[house]);
            }
            return ends / 2;
        }
    }

    private static final class Sights {
        private final int[] sets = new int[MOST_SIGHTS];
        private final int[] counts = new int[MOST_SIGHTS];
        private int size;

        private void copyFrom(Sights from) {
            System.arraycopy(from.sets, 0, sets, 0, MOST_SIGHTS);
            System.arraycopy(from.counts, 0, counts, 0, MOST_SIGHTS);
            size = from.size;
        }

        private void add(int set, int v) {
            if (size < MOST_SIGHTS) {
                sets[size] = set;
                counts[size] = v;
                size++;
            }
        }

        private boolean allow(int were) {
            for (int i = 0; i < size && i < MOST_SIGHTS; i++) {
                if (Integer.bitCount(sets[i] & were) != counts[i]) {
                    return false;
                }
            }
            return true;
        }
    }

    private static final class Image {
        private final Parish parish = new Parish();
        private final Kinship kinship = new Kinship();
        private final Sights sights = new Sights();
        private boolean kept;
    }

    /** The text, read sign by sign as it is said; nothing behind a sign that can not stand is read. */
    private static final class Pad {
        private static final int ACT_OR_END = 0;
        private static final int WHAT_IT_DOES = 1;
        private static final int GIVEN_ONE = 2;
        private static final int HOW_MUCH = 3;
        private static final int CHANGING_ONE = 4;
        private static final int CHANGING_OTHER = 5;

        private final int[] kinds = new int[PAD_SIGNS];
        private final int[] ones = new int[PAD_SIGNS];
        private final int[] others = new int[PAD_SIGNS];
        private final int[] amounts = new int[PAD_SIGNS];
        private int acts;
        private int signs;
        private int wrongPlace = NONE;
        private int expected = ACT_OR_END;
        private int one;
        private int other;

        private void clear() {
            acts = 0;
            signs = 0;
            wrongPlace = NONE;
            expected = ACT_OR_END;
        }

        private int faultPlace() {
            if (wrongPlace != NONE) {
                return wrongPlace;
            }
            return expected == ACT_OR_END ? NONE : signs;
        }

        private void hear(int sign) {
            if (wrongPlace == NONE && !read(sign)) {
                wrongPlace = signs;
            }
            signs++;
        }

        /** Whether the sign can stand behind those that were read. */
        private boolean read(int sign) {
            switch (expected) {
                case ACT_OR_END:
                    return readStart(sign);
                case WHAT_IT_DOES:
                    return readDeed(sign);
                case HOW_MUCH:
                    return readAmount(sign);
                default:
                    return readAnotherHouse(sign);
            }
        }

        private boolean readStart(int sign) {
            if (isLetter(sign)) {
                one = sign - 'A';
                expected = WHAT_IT_DOES;
                return true;
            }
            if (sign == 'x') {
                expected = CHANGING_ONE;
                return true;
            }
            if (sign == '.') {
                addAct(YEAR, 0);
                return true;
            }
            return false;
        }

        private boolean readDeed(int sign) {
            if (sign == '^') {
                addAct(GO_IN, 0);
                return true;
            }
            if (sign == '_') {
                addAct(COME_OUT, 0);
                return true;
            }
            if (sign == '>') {
                expected = GIVEN_ONE;
                return true;
            }
            return false;
        }

        private boolean readAmount(int sign) {
            if (sign < '1' || sign > '9') {
                return false;
            }
            addAct(GIVE, sign - '0');
            return true;
        }

        private boolean readAnotherHouse(int sign) {
            if (!isLetter(sign)) {
                return false;
            }
            if (expected == CHANGING_ONE) {
                one = sign - 'A';
                expected = CHANGING_OTHER;
                return true;
            }
            other = sign - 'A';
            if (expected == GIVEN_ONE) {
                expected = HOW_MUCH;
            } else {
                addAct(CHANGE, 0);
            }
            return true;
        }

        private void addAct(int kind, int amount) {
            if (acts < PAD_SIGNS) {
                kinds[acts] = kind;
                ones[acts] = one;
                others[acts] = other;
                amounts[acts] = amount;
                acts++;
            }
            expected = ACT_OR_END;
        }

        private static boolean isLetter(int sign) {
            return sign >= 'A' && sign < 'A' + HOUSES;
        }
    }

    /** ACTS played on a copy of the parish. */
    private static final class Trial {
        private final Parish parish = new Parish();
        private int wrongAct;
        private int reason;
        private int gifts;
        private int firstAct;
        private int firstHouse;

        private void begin(Parish from) {
            parish.copyFrom(from);
            wrongAct = NONE;
            reason = NONE;
            gifts = 0;
            firstAct = NONE;
            firstHouse = NONE;
        }

        private void play(Pad pad, Parish from) {
            begin(from);
            for (int act = 0; act < pad.acts && act < PAD_SIGNS; act++) {
                int kind = pad.kinds[act];
                int comer = kind == YEAR ? parish.houseAtNext() : pad.ones[act];
                int why = attempt(kind, pad.ones[act], pad.others[act], pad.amounts[act]);
                if (why != ALLOWED) {
                    wrongAct = act;
                    reason = why;
                    return;
                }
                if (firstAct == NONE && (kind == YEAR || kind == GO_IN)) {
                    firstAct = act;
                    firstHouse = comer;
                }
            }
        }

        /** Does the ACT if it can be; if not, says why. */
        private int attempt(int kind, int one, int other, int much) {
            int why = parish.reasonAgainst(kind, one, other, much);
            if (why == ALLOWED) {
                parish.perform(kind, one, other, much);
                if (kind == GIVE) {
                    gifts += much;
                }
            }
            return why;
        }
    }

    /** The most groups that are even among themselves; a group of so many needs one payment less. */
    private static final class Evening {
        private final int[] dues = new int[HOUSES];
        private final int[] mostGroups = new int[ALL_SETS];
        private int owing;

        private void work(Parish parish) {
            owing = 0;
            for (int house = 0; house < HOUSES; house++) {
                dues[house] = parish.dueOf(house);
                if (dues[house] != 0) {
                    owing |= 1 << house;
                }
            }
            mostGroups[0] = 0;
            for (int set = 1; set < ALL_SETS; set++) {
                workSet(set);
            }
        }

        /** Houses come one by one; each time those so far are even, a group is closed. */
        private void workSet(int set) {
            int sum = 0;
            int most = 0;
            for (int house = 0; house < HOUSES; house++) {
                if ((set >> house & 1) == 1) {
                    sum += dues[house];
                    most = Math.max(most, mostGroups[set & ~(1 << house)]);
                }
            }
            mostGroups[set] = sum == 0 ? most + 1 : most;
        }

        private int groups() {
            return mostGroups[owing & EVERYONE];
        }

        private int payments() {
            return Integer.bitCount(owing) - groups();
        }
    }

    /** Rows of all houses without kin side by side. */
    private static final class Rows {
        /** In how many ways a row goes on, at 8 times the set of those in it and the last of them. */
        private final int[] ways = new int[ALL_SETS * HOUSES];

        private void work(Kinship kinship) {
            for (int last = 0; last < HOUSES; last++) {
                ways[EVERYONE * HOUSES + last] = 1;
            }
            for (int set = EVERYONE - 1; set > 0; set--) {
                for (int last = 0; last < HOUSES; last++) {
                    if ((set >> last & 1) == 1) {
                        ways[set * HOUSES + last] = waysOn(set, EVERYONE & ~set & ~kinship.of[last]);
                    }
                }
            }
        }

        private int waysOn(int set, int mayFollow) {
            int sum = 0;
            for (int house = 0; house < HOUSES; house++) {
                if ((mayFollow >> house & 1) == 1) {
                    sum += ways[(set | 1 << house) * HOUSES + house];
                }
            }
            return sum;
        }

        private int howMany() {
            return waysOn(0, EVERYONE);
        }

        private int least(Kinship kinship) {
            int number = 0;
            int set = 0;
            int mayFollow = EVERYONE;
            for (int place = 0; place < HOUSES; place++) {
                int house = leastThatGoesOn(set, mayFollow);
                if (house == NONE) {
                    return NONE;
                }
                number = number * 10 + house;
                set |= 1 << house;
                mayFollow = EVERYONE & ~set & ~kinship.of[house];
            }
            return number;
        }

        private int leastThatGoesOn(int set, int mayFollow) {
            for (int house = 0; house < HOUSES; house++) {
                if ((mayFollow >> house & 1) == 1 && ways[(set | 1 << house) * HOUSES + house] > 0) {
                    return house;
                }
            }
            return NONE;
        }
    }

    /** The sets by which all SIGHTS are so, and what to ask about next. */
    private static final class Guess {
        private final int[] fitting = new int[ALL_SETS];
        private final int[] leftBy = new int[HOUSES + 1];
        private int size;
        private int question;
        private int left;

        private void findFitting(Sights sights) {
            size = 0;
            for (int were = 0; were < ALL_SETS; were++) {
                if (size < ALL_SETS && sights.allow(were)) {
                    fitting[size] = were;
                    size++;
                }
            }
        }

        private void findQuestion() {
            question = NONE;
            left = NONE;
            if (size == 0) {
                return;
            }
            int fewest = size + 1;
            for (int set = 0; set < ALL_SETS; set++) {
                int most = mostLeft(set, fewest);
                if (most < fewest) {
                    fewest = most;
                    question = set;
                }
            }
            left = fewest;
        }

        /** How many are left at the most; a set that leaves as many as the limit is not counted on. */
        private int mostLeft(int set, int limit) {
            for (int were = 0; were <= HOUSES; were++) {
                leftBy[were] = 0;
            }
            int most = 0;
            for (int i = 0; i < size && i < ALL_SETS && most < limit; i++) {
                int were = Integer.bitCount(fitting[i] & set);
                if (were <= HOUSES) {
                    leftBy[were]++;
                    most = Math.max(most, leftBy[were]);
                }
            }
            return most;
        }
    }
}
