import java.util.function.Supplier;
import java.util.function.ToLongFunction;

/** What is refused is refused in the document's order, and changes nothing; one case for each call that refuses. */
public final class RefusalsTest {
    private static final int LOWEST = Make.LOWEST, HIGHEST = Make.HIGHEST;
    private static final String GOOD_TEXT = "A^G>A1.";

    /** Nothing in it is as at first; image 0 is kept, and not as it is now; image 1 is not kept. */
    private static PoorTurns lived(String text) {
        PoorTurns x = new PoorTurns();
        x.house(2, 7, 1);
        x.gave(2, 3, 70);
        x.kin(2, 3, true);
        x.count(7, 1);
        x.image(0);
        Make.write(x, "xAH..").done();
        x.house(4, 999, 1);
        x.gave(4, 5, 999);
        x.kin(4, 5, true);
        x.map(30715264, 7);
        x.count(56, 2);
        return Make.write(x, text);
    }

    private static PoorTurns livedWithFullSights() {
        PoorTurns x = lived(GOOD_TEXT);
        for (int i = x.told(5); i < 8; i++) {
            x.count(0, 0);
        }
        return x;
    }

    /** The call answers so, and its object is as one that it was not asked of. */
    private static void changesNothing(Due due, Supplier<PoorTurns> made, long answer, ToLongFunction<PoorTurns> call) {
        PoorTurns x = made.get();
        due.is("the call", call.applyAsLong(x), answer);
        due.holds("it changes nothing", Seen.of(x).equals(Seen.of(made.get())));
    }

    /** The same with an empty pad, a text, a fault, acts that can not be, and both. */
    private static void always(Due due, long refusal, ToLongFunction<PoorTurns> call) {
        for (String text : new String[] {"", GOOD_TEXT, "A^B", "A^A^", "A^A^B", ".".repeat(60), ".".repeat(59) + "x"}) {
            changesNothing(due, () -> lived(text), refusal, call);
        }
        changesNothing(due, RefusalsTest::livedWithFullSights, refusal, call);
    }

    // ---- each call, all that it refuses

    static void house(Due due) {
        for (int house : new int[] {-1, 8, LOWEST, HIGHEST}) {
            always(due, Make.UNKNOWN, x -> x.house(house, 5, 1));
        }
        for (int wealth : new int[] {-1, 1000, LOWEST, HIGHEST}) {
            always(due, Make.OUTSIDE, x -> x.house(0, wealth, 1));
        }
        for (int isIn : new int[] {-1, 2, LOWEST, HIGHEST}) {
            always(due, Make.OUTSIDE, x -> x.house(0, 5, isIn));
        }
        always(due, Make.UNKNOWN, x -> x.house(8, 1000, 2));
        always(due, Make.OUTSIDE, x -> x.house(7, 1000, 2));
    }

    static void gave(Due due) {
        for (int house : new int[] {-1, 8, LOWEST, HIGHEST}) {
            always(due, Make.UNKNOWN, x -> x.gave(house, 1, 5));
            always(due, Make.UNKNOWN, x -> x.gave(1, house, 5));
            always(due, Make.UNKNOWN, x -> x.gave(house, house, 5));
        }
        for (int v : new int[] {-1, 1000, LOWEST, HIGHEST}) {
            always(due, Make.OUTSIDE, x -> x.gave(0, 1, v));
        }
        always(due, Make.UNKNOWN, x -> x.gave(3, 3, 5));
        always(due, Make.UNKNOWN, x -> x.gave(3, 3, 1000));
        always(due, Make.UNKNOWN, x -> x.gave(0, 8, 1000));
    }

    static void map(Due due) {
        for (int row : new int[] {-1, 0, 11234567, 1234568, 101234567, LOWEST, HIGHEST}) {
            always(due, Make.OUTSIDE, x -> x.map(row, 0));
        }
        for (int next : new int[] {-1, 8, LOWEST, HIGHEST}) {
            always(due, Make.OUTSIDE, x -> x.map(1234567, next));
        }
        always(due, Make.OUTSIDE, x -> x.map(-1, 8));
    }

    static void kin(Due due) {
        for (int house : new int[] {-1, 8, LOWEST, HIGHEST}) {
            always(due, Make.UNKNOWN, x -> x.kin(house, 1, true));
            always(due, Make.UNKNOWN, x -> x.kin(1, house, true));
            always(due, Make.UNKNOWN, x -> x.kin(house, 4, false));
        }
        always(due, Make.UNKNOWN, x -> x.kin(4, 4, true));
        always(due, Make.UNKNOWN, x -> x.kin(4, 4, false));
    }

    static void say(Due due) {
        for (int sign : new int[] {32, 127, 0, -1, 'A' + 256, LOWEST, HIGHEST}) {
            always(due, Make.OUTSIDE, x -> x.say(sign));
        }
        for (char sign : new char[] {'.', '!', '~', 'A'}) {
            changesNothing(due, () -> lived(".".repeat(60)), Make.FULL, x -> x.say(sign));
            changesNothing(due, () -> lived(".".repeat(59) + "A"), Make.FULL, x -> x.say(sign));
        }
    }

    /** What is asked of a text: outside always, then no, then state. */
    private static void ofText(Due due, int most, boolean stateOfAll, AskText call) {
        for (int what : new int[] {-1, most + 1, LOWEST, HIGHEST}) {
            always(due, Make.OUTSIDE, x -> call.ask(x, what));
        }
        for (int each = 0; each <= most; each++) {
            int what = each;
            for (String text : new String[] {"A^B", "A^A^B", "!", ".".repeat(59) + "x"}) {
                changesNothing(due, () -> lived(text), Make.NO, x -> call.ask(x, what));
            }
            if (stateOfAll || what == 2) {
                changesNothing(due, () -> lived("A^A^"), Make.STATE, x -> call.ask(x, what));
            }
        }
    }

    private interface AskText {
        long ask(PoorTurns x, int what);
    }

    static void judge(Due due) {
        ofText(due, 2, false, PoorTurns::judge);
        due.is("not state", lived("A^A^").judge(0), 1);
        due.is("not state", lived("A^A^").judge(1), 1);
    }

    static void behind(Due due) {
        ofText(due, 2, true, (x, what) -> x.behind(4, what));
        for (int house : new int[] {-1, 8, LOWEST, HIGHEST}) {
            always(due, Make.UNKNOWN, x -> x.behind(house, 0));
            always(due, Make.UNKNOWN, x -> x.behind(house, 3));
        }
    }

    static void parish(Due due) {
        ofText(due, 4, true, PoorTurns::parish);
    }

    static void first(Due due) {
        ofText(due, 1, true, PoorTurns::first);
    }

    static void done(Due due) {
        for (String text : new String[] {"A^B", "A^A^B", "!", ".".repeat(59) + "x"}) {
            changesNothing(due, () -> lived(text), Make.NO, PoorTurns::done);
        }
        changesNothing(due, () -> lived("A^A^"), Make.STATE, PoorTurns::done);
    }

    static void due(Due due) {
        for (int house : new int[] {-1, 8, LOWEST, HIGHEST}) {
            always(due, Make.UNKNOWN, x -> x.due(house));
        }
    }

    static void even(Due due) {
        for (int what : new int[] {-1, 2, LOWEST, HIGHEST}) {
            always(due, Make.OUTSIDE, x -> x.even(what));
        }
    }

    static void orders(Due due) {
        for (int what : new int[] {-1, 2, LOWEST, HIGHEST}) {
            always(due, Make.OUTSIDE, x -> x.orders(what));
        }
    }

    static void ring(Due due) {
        for (int n : new int[] {-1, 0, 1000, LOWEST, HIGHEST}) {
            always(due, Make.OUTSIDE, x -> x.ring(n, 5, 0));
        }
        for (int k : new int[] {-1, 0, 100, LOWEST, HIGHEST}) {
            always(due, Make.OUTSIDE, x -> x.ring(5, k, 0));
        }
        for (int i : new int[] {-1, 5, LOWEST, HIGHEST}) {
            always(due, Make.OUTSIDE, x -> x.ring(5, 5, i));
        }
    }

    static void count(Due due) {
        for (int set : new int[] {-1, 256, LOWEST, HIGHEST}) {
            always(due, Make.OUTSIDE, x -> x.count(set, 0));
        }
        for (int v : new int[] {-1, 9, LOWEST, HIGHEST}) {
            always(due, Make.OUTSIDE, x -> x.count(255, v));
        }
        changesNothing(due, RefusalsTest::livedWithFullSights, Make.FULL, x -> x.count(255, 8));
    }

    static void ask(Due due) {
        for (int what : new int[] {-1, 2, LOWEST, HIGHEST}) {
            always(due, Make.OUTSIDE, x -> x.ask(what));
        }
    }

    static void crumbs(Due due) {
        for (int heap : new int[] {-1, 1000, LOWEST, HIGHEST}) {
            always(due, Make.OUTSIDE, x -> x.crumbs(heap, 5, 0));
            always(due, Make.OUTSIDE, x -> x.crumbs(5, heap, 1));
        }
        for (int what : new int[] {-1, 2, LOWEST, HIGHEST}) {
            always(due, Make.OUTSIDE, x -> x.crumbs(5, 5, what));
        }
    }

    static void lots(Due due) {
        long refusal = Make.GONE + Make.OUTSIDE;
        for (int n : new int[] {-1, 13, LOWEST, HIGHEST}) {
            always(due, refusal, x -> x.lots(n, 0, 0, 0));
        }
        for (int k : new int[] {-1, 6, LOWEST, HIGHEST}) {
            always(due, refusal, x -> x.lots(5, k, 1, 1));
        }
        for (int v : new int[] {-1, 2, LOWEST, HIGHEST}) {
            always(due, refusal, x -> x.lots(5, 2, v, 0));
            always(due, refusal, x -> x.lots(5, 2, 0, v));
        }
    }

    static void century(Due due) {
        for (int seed : new int[] {-1, 10000, LOWEST, HIGHEST}) {
            always(due, Make.OUTSIDE, x -> x.century(seed, 5, 0));
        }
        for (int m : new int[] {-1, 0, 100, LOWEST, HIGHEST}) {
            always(due, Make.OUTSIDE, x -> x.century(5, m, 0));
        }
        for (int what : new int[] {-1, 3, LOWEST, HIGHEST}) {
            always(due, Make.OUTSIDE, x -> x.century(5, 5, what));
        }
    }

    static void image(Due due) {
        for (int k : new int[] {-1, 2, LOWEST, HIGHEST}) {
            always(due, Make.OUTSIDE, x -> x.image(k));
        }
    }

    static void restore(Due due) {
        for (int k : new int[] {-1, 2, LOWEST, HIGHEST}) {
            always(due, Make.OUTSIDE, x -> x.restore(k));
        }
        always(due, Make.STATE, x -> x.restore(1));
    }

    static void told(Due due) {
        for (int what : new int[] {-1, 6, 18, 28, 99, 108, 178, 180, LOWEST, HIGHEST}) {
            always(due, Make.OUTSIDE, x -> x.told(what));
        }
    }

    // ---- calls that only ask

    static void whatOnlyAsksChangesNothing(Due due) {
        changesNothing(due, () -> lived(GOOD_TEXT), Make.NONE, PoorTurns::fault);
        changesNothing(due, () -> lived(GOOD_TEXT), Make.NONE, x -> x.judge(0));
        changesNothing(due, () -> lived(GOOD_TEXT), 1, x -> x.judge(2));
        changesNothing(due, () -> lived(GOOD_TEXT), 51, x -> x.behind(0, 0));
        changesNothing(due, () -> lived(GOOD_TEXT), 3, x -> x.parish(3));
        changesNothing(due, () -> lived(GOOD_TEXT), 0, x -> x.first(0));
        changesNothing(due, () -> lived(GOOD_TEXT), 10999, x -> x.due(4));
        changesNothing(due, () -> lived(GOOD_TEXT), 2, x -> x.even(1));
        changesNothing(due, () -> lived(GOOD_TEXT), 1, x -> x.crumbs(5, 5, 1));
        changesNothing(due, () -> lived(GOOD_TEXT), 2, x -> x.ring(5, 3, 0));
        changesNothing(due, () -> lived(GOOD_TEXT), Make.NONE, x -> x.ever(-2));
        changesNothing(due, () -> lived(GOOD_TEXT), 36, x -> x.ever(-1));
        changesNothing(due, () -> lived(GOOD_TEXT), 999, x -> x.told(145));
        changesNothing(due, () -> lived(GOOD_TEXT), 1, x -> x.lots(5, 0, 1, 1));
    }

    public static void main(String[] args) {
        Cases.run(RefusalsTest.class);
    }
}
