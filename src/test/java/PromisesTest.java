/** Each promise in turn: ordinary inputs, the edges that the document names, wrong inputs. */
public final class PromisesTest {
    private static final int UNKNOWN = -1, OUTSIDE = -2, STATE = -3, FULL = -4, NO = -5, NONE = -6;
    private static final long GONE = -1000000000000000000L;
    private static final int[] NO_HOUSES = {-1, 8, Integer.MIN_VALUE, Integer.MAX_VALUE};
    private static final Due due = new Due();

    private static void is(String call, long got, long want) {
        due.is(call, got, want);
    }

    private static void write(PoorTurns x, String text) {
        for (char sign : text.toCharArray()) {
            x.say(sign);
        }
    }

    private static PoorTurns with(String text) {
        PoorTurns x = new PoorTurns();
        write(x, text);
        return x;
    }

    private static void faultOf(String text, int want) {
        is("1/8: fault of " + text, with(text).fault(), want);
    }

    private static void judged(PoorTurns x, String text, int act, int why) {
        x.wipe();
        write(x, text);
        is("9: act of " + text, x.judge(0), act);
        is("9: why of " + text, x.judge(1), why);
        is("9: state of " + text, x.judge(2), act == NONE ? x.judge(2) : STATE);
    }

    private static void promise1() {
        PoorTurns x = new PoorTurns();
        for (int what = 0; what <= 5; what++) {
            is("1: told " + what, x.told(what), what == 2 ? 1234567 : 0);
        }
        for (int one = 0; one < 8; one++) {
            is("1: wealth", x.told(10 + one), 50);
            is("1: kin", x.told(20 + one), 0);
            for (int other = 0; other < 8; other++) {
                is("1: gave", x.told(100 + 10 * one + other), 0);
            }
        }
        is("1: fault", x.fault(), NONE);
        is("1: restore", x.restore(0), STATE);
        is("1: restore", x.restore(1), STATE);
    }

    private static void promise2() {
        PoorTurns x = new PoorTurns();
        is("2", x.house(7, 999, 1), 50);
        is("2", x.house(7, 0, 1), 999);
        is("2", x.told(1), 128);
        is("2", x.house(3, 12, 1), 50);
        is("2", x.told(1), 136);
        is("2", x.house(7, 5, 0), 0);
        is("2", x.told(1), 8);
        for (int house : NO_HOUSES) {
            is("2: unknown", x.house(house, -1, 2), UNKNOWN);
        }
        is("2: wealth below", x.house(3, -1, 0), OUTSIDE);
        is("2: wealth above", x.house(3, 1000, 0), OUTSIDE);
        is("2: isIn below", x.house(3, 1, -1), OUTSIDE);
        is("2: isIn above", x.house(3, 1, 2), OUTSIDE);
        is("2: refused changes nothing", x.told(13), 12);
        is("2: refused changes nothing", x.told(1), 8);
    }

    private static void promise3() {
        PoorTurns x = new PoorTurns();
        is("3", x.gave(0, 1, 5), 0);
        is("3", x.gave(0, 1, 999), 5);
        is("3", x.gave(1, 0, 7), 0);
        is("3", x.gave(0, 1, 0), 999);
        is("3", x.told(110), 7);
        for (int house : NO_HOUSES) {
            is("3: unknown", x.gave(house, 1, -1), UNKNOWN);
            is("3: unknown", x.gave(1, house, -1), UNKNOWN);
        }
        is("3: both one", x.gave(4, 4, 1000), UNKNOWN);
        is("3: below", x.gave(1, 0, -1), OUTSIDE);
        is("3: above", x.gave(1, 0, 1000), OUTSIDE);
        is("3: refused changes nothing", x.told(110), 7);
        is("3: wealth stays", x.told(10), 50);
    }

    private static void promise4() {
        PoorTurns x = new PoorTurns();
        is("4", x.map(76543210, 7), 12345670);
        is("4", x.map(1234576, 3), 765432107);
        is("4", x.told(2), 1234576);
        is("4", x.told(3), 3);
        int[] noRows = {-1, 0, 1234568, 11234567, 12345678, 123456789, 101234567, 1234567890, -1234567,
            7654320, 76543211, 98765432, Integer.MAX_VALUE, Integer.MIN_VALUE, 234567, 801234567};
        for (int row : noRows) {
            is("4: row " + row, x.map(row, 0), OUTSIDE);
        }
        is("4: place", x.map(1234567, 8), OUTSIDE);
        is("4: place", x.map(1234567, -1), OUTSIDE);
        is("4: refused changes nothing", x.map(1234567, 0), 12345763);
    }

    private static void promise5() {
        PoorTurns x = new PoorTurns();
        is("5", x.kin(0, 7, true), 1);
        is("5", x.kin(7, 0, true), 1);
        is("5", x.kin(7, 3, true), 2);
        is("5", x.told(27), 9);
        is("5", x.told(20), 128);
        is("5", x.told(23), 128);
        is("5", x.kin(0, 1, false), 2);
        is("5", x.kin(3, 7, false), 1);
        is("5", x.told(27), 1);
        for (int house : NO_HOUSES) {
            is("5: unknown", x.kin(house, 1, true), UNKNOWN);
            is("5: unknown", x.kin(1, house, true), UNKNOWN);
        }
        is("5: both one", x.kin(2, 2, true), UNKNOWN);
        int two = 0;
        PoorTurns all = new PoorTurns();
        for (int one = 0; one < 8; one++) {
            for (int other = one + 1; other < 8; other++) {
                two++;
                is("5: all kin", all.kin(other, one, true), two);
            }
        }
    }

    private static void promises6and7() {
        PoorTurns x = new PoorTurns();
        int[] noSigns = {32, 127, 0, -1, Integer.MIN_VALUE, Integer.MAX_VALUE, 65 + 256};
        for (int sign : noSigns) {
            is("6: sign " + sign, x.say(sign), OUTSIDE);
        }
        is("6: least", x.say(33), 1);
        is("6: greatest", x.say(126), 2);
        is("7", x.wipe(), 2);
        is("7: fault goes", x.fault(), NONE);
        is("7", x.wipe(), 0);
        for (int i = 1; i <= 60; i++) {
            is("6", x.say('.'), i);
        }
        is("6: full", x.say('.'), FULL);
        is("6: outside ahead of full", x.say(32), OUTSIDE);
        is("6: refused changes nothing", x.told(0), 60);
        is("6: sixty acts", x.parish(3), 60);
        is("7", x.wipe(), 60);
        is("7", x.told(0), 0);
        is("7: no acts", x.parish(3), 0);
        write(x, "A>");
        x.wipe();
        write(x, "B^");
        is("7: read from the start", x.fault(), NONE);
    }

    private static void promise8() {
        faultOf("", NONE);
        faultOf(".", NONE);
        faultOf("A^B_xAH.C>D9.", NONE);
        faultOf("A>A1xAA", NONE);
        faultOf("A", 1);
        faultOf("A>", 2);
        faultOf("A>B", 3);
        faultOf("x", 1);
        faultOf("xA", 2);
        faultOf(".A", 2);
        faultOf("I", 0);
        faultOf("@", 0);
        faultOf("a^", 0);
        faultOf("X", 0);
        faultOf("^", 0);
        faultOf("1", 0);
        faultOf(".1", 1);
        faultOf("A.", 1);
        faultOf("Ax", 1);
        faultOf("A<", 1);
        faultOf("A>I1", 2);
        faultOf("A>x1", 2);
        faultOf("A>B0", 3);
        faultOf("A>B:", 3);
        faultOf("A>B1", NONE);
        faultOf("A>B12", 4);
        faultOf("H>G9", NONE);
        faultOf("xIA", 1);
        faultOf("xAI", 2);
        faultOf("xA1", 2);
        faultOf("A^A^AA.I", 5);
        faultOf("!A^", 0);
        faultOf(".".repeat(59) + "A", 60);
    }

    private static void promise9() {
        PoorTurns x = new PoorTurns();
        judged(x, "", NONE, NONE);
        is("9: nothing given", x.judge(2), 0);
        judged(x, "A^A^", 1, 1);
        judged(x, "A_", 0, 1);
        judged(x, "A^A_", NONE, NONE);
        judged(x, "A>A1", 0, 2);
        judged(x, "A^A>A1", 1, 2);
        judged(x, ".xAA", 1, 2);
        judged(x, "A^A>B1", 1, 3);
        judged(x, "A>B1", 0, 3);
        judged(x, "A^B^A>B1", 2, 3);
        x.house(2, 4, 0);
        x.house(3, 4, 0);
        judged(x, "A^C>A4", NONE, NONE);
        judged(x, "A^C>A5", 1, 4);
        judged(x, "C>A5", 0, 3);
        judged(x, "A^C>A4C>A1A^", 2, 4);
        judged(x, "A^C>A3D>A4B>A9", NONE, NONE);
        is("9: how much", x.judge(2), 16);
        for (int what : new int[] {-1, 3, Integer.MIN_VALUE, Integer.MAX_VALUE}) {
            is("9: outside", x.judge(what), OUTSIDE);
        }
        x.say('A');
        for (int what = 0; what <= 2; what++) {
            is("9: no", x.judge(what), NO);
        }
        is("9: outside ahead of no", x.judge(3), OUTSIDE);
        PoorTurns late = new PoorTurns();
        for (int year = 0; year < 99; year++) {
            write(late, ".");
            late.done();
        }
        is("9: year", late.told(4), 99);
        judged(late, "xAB.", 1, 5);
        late.wipe();
        write(late, "AA");
        is("9: no", late.judge(0), NO);
    }

    private static void promise10() {
        PoorTurns x = with("B^A>B9xAH.");
        is("10", x.behind(0, 0), 41);
        is("10", x.behind(1, 0), 59);
        is("10", x.behind(1, 1), 0);
        is("10", x.behind(7, 1), 1);
        is("10", x.behind(0, 2), 7);
        is("10", x.behind(7, 2), 0);
        is("10", x.behind(3, 2), 3);
        is("10: nothing is done", x.told(10), 50);
        for (int house : NO_HOUSES) {
            is("10: unknown", x.behind(house, 3), UNKNOWN);
        }
        is("10: outside", x.behind(0, -1), OUTSIDE);
        is("10: outside", x.behind(0, 3), OUTSIDE);
        write(x, "xAA");
        is("10: state", x.behind(0, 0), STATE);
        x.say('A');
        is("10: no", x.behind(0, 0), NO);
        is("10: outside ahead of no", x.behind(0, 3), OUTSIDE);
        is("10: unknown ahead of no", x.behind(8, 0), UNKNOWN);
        PoorTurns rich = new PoorTurns();
        rich.house(1, 995, 1);
        write(rich, "A>B9");
        is("10: at most 999", rich.behind(1, 0), 999);
        is("10: the giver has less", rich.behind(0, 0), 41);
    }

    private static void promise11() {
        PoorTurns x = new PoorTurns();
        x.map(76543210, 6);
        is("11: least, the first on the map", x.parish(4), 7);
        x.house(2, 49, 1);
        x.house(5, 49, 1);
        is("11: least, the first on the map", x.parish(4), 5);
        write(x, "xCF");
        is("11: least, the first on the map of then", x.parish(4), 2);
        is("11: in", x.parish(0), 36);
        is("11: next", x.parish(2), 6);
        write(x, "A>C9.");
        is("11: in", x.parish(0), 2);
        is("11: wealth", x.parish(1), 398);
        is("11: next", x.parish(2), 7);
        is("11: year", x.parish(3), 1);
        is("11: least", x.parish(4), 0);
        write(x, ".");
        is("11: in", x.parish(0), 1);
        is("11: next behind 7", x.parish(2), 0);
        is("11: year", x.parish(3), 2);
        is("11: nothing is done", x.told(4), 0);
        is("11: outside", x.parish(-1), OUTSIDE);
        is("11: outside", x.parish(5), OUTSIDE);
        write(x, "xAA");
        is("11: state", x.parish(0), STATE);
        x.say('A');
        is("11: no", x.parish(0), NO);
        is("11: outside ahead of no", x.parish(5), OUTSIDE);
    }

    private static void promise12() {
        PoorTurns x = new PoorTurns();
        x.house(2, 50, 1);
        is("12: none", x.first(0), NONE);
        is("12: none", x.first(1), NONE);
        write(x, "C_xAB");
        is("12: none", x.first(0), NONE);
        is("12: none", x.first(1), NONE);
        write(x, "F^G^.");
        is("12: act", x.first(0), 2);
        is("12: which", x.first(1), 5);
        is("12: outside", x.first(-1), OUTSIDE);
        is("12: outside", x.first(2), OUTSIDE);
        write(x, "xAA");
        is("12: state", x.first(0), STATE);
        x.say('A');
        is("12: no", x.first(0), NO);
        is("12: outside ahead of no", x.first(2), OUTSIDE);
        PoorTurns again = new PoorTurns();
        again.house(4, 50, 1);
        again.map(1234567, 4);
        write(again, "B>E1.");
        is("12: was in ahead of that", again.first(0), 1);
        is("12: was in ahead of that", again.first(1), 4);
    }

    private static void promise13() {
        PoorTurns x = with("B^A>B9xAH.");
        is("13", x.done(), 4);
        is("13: the pad is empty", x.told(0), 0);
        is("13: in", x.told(1), 128);
        is("13: map", x.told(2), 71234560);
        is("13: next", x.told(3), 1);
        is("13: year", x.told(4), 1);
        is("13: wealth", x.told(10), 41);
        is("13: wealth", x.told(11), 59);
        is("13: gave", x.told(101), 9);
        is("13: empty", x.done(), 0);
        x.gave(0, 7, 992);
        write(x, "A>H8A>H9");
        is("13", x.done(), 2);
        is("13: gave at most 999", x.told(107), 999);
        write(x, "A^A^");
        is("13: state", x.done(), STATE);
        is("13: refused changes nothing", x.told(0), 4);
        is("13: refused changes nothing", x.told(1), 128);
        x.say('x');
        is("13: no", x.done(), NO);
        is("13: refused changes nothing", x.told(0), 5);
    }

    private static void promise14() {
        PoorTurns x = new PoorTurns();
        is("14", x.due(0), 10000);
        for (int other = 1; other < 8; other++) {
            x.gave(0, other, 999);
        }
        is("14: most", x.due(0), 16993);
        is("14: given", x.due(1), 9001);
        x.gave(1, 0, 900);
        x.gave(3, 1, 30);
        is("14: both ways", x.due(0), 16093);
        is("14: both ways", x.due(1), 9871);
        is("14: gave some of it", x.due(3), 9031);
        PoorTurns begged = new PoorTurns();
        for (int other = 0; other < 7; other++) {
            begged.gave(other, 7, 999);
        }
        is("14: least", begged.due(7), 3007);
        for (int house : NO_HOUSES) {
            is("14: unknown", x.due(house), UNKNOWN);
        }
    }

    private static void promise15() {
        PoorTurns x = new PoorTurns();
        is("15: none", x.even(0), 0);
        is("15: none", x.even(1), 0);
        x.gave(0, 1, 5);
        x.gave(2, 3, 7);
        is("15: two twos", x.even(0), 2);
        is("15: two twos", x.even(1), 2);
        x.gave(1, 2, 1);
        is("15: one of four", x.even(0), 3);
        is("15: one of four", x.even(1), 1);
        x.gave(1, 2, 0);
        x.gave(1, 0, 5);
        is("15: given back", x.even(0), 1);
        is("15: given back", x.even(1), 1);
        is("15: outside", x.even(-1), OUTSIDE);
        is("15: outside", x.even(2), OUTSIDE);
        PoorTurns threes = new PoorTurns();
        int[][] gifts = {{0, 1, 3}, {0, 2, 4}, {3, 5, 1}, {4, 5, 9}, {6, 7, 2}};
        for (int[] gift : gifts) {
            threes.gave(gift[0], gift[1], gift[2]);
        }
        is("15: three, three, two", threes.even(0), 5);
        is("15: three, three, two", threes.even(1), 3);
    }

    private static void promise16() {
        PoorTurns x = new PoorTurns();
        is("16: all", x.orders(0), 40320);
        is("16: all", x.orders(1), 1234567);
        x.kin(0, 1, true);
        is("16", x.orders(0), 30240);
        is("16", x.orders(1), 2134567);
        for (int other = 2; other < 8; other++) {
            x.kin(0, other, true);
        }
        is("16: none", x.orders(0), 0);
        is("16: none", x.orders(1), NONE);
        x.kin(0, 7, false);
        is("16: one neighbour alone", x.orders(0), 1440);
        is("16: one neighbour alone", x.orders(1), 7123456);
        PoorTurns ends = new PoorTurns();
        for (int other = 0; other < 8; other++) {
            ends.kin(1, other, other != 2);
            ends.kin(3, other, other != 4);
        }
        is("16: 1 and 3 at the ends", ends.orders(0), 48);
        is("16: 1 and 3 at the ends", ends.orders(1), 12056743);
        is("16: outside", x.orders(-1), OUTSIDE);
        is("16: outside", x.orders(2), OUTSIDE);
    }

    private static void promise17() {
        PoorTurns x = new PoorTurns();
        int[] goes = {2, 5, 1, 6, 4, 0, 3};
        for (int i = 0; i < 7; i++) {
            is("17: of seven by three", x.ring(7, 3, i), goes[i]);
        }
        is("17: one", x.ring(1, 99, 0), 0);
        is("17: by one", x.ring(999, 1, 500), 500);
        is("17: round and round", x.ring(2, 99, 0), 0);
        is("17: round and round", x.ring(2, 99, 1), 1);
        is("17: n", x.ring(0, 1, 0), OUTSIDE);
        is("17: n", x.ring(1000, 1, 0), OUTSIDE);
        is("17: k", x.ring(5, 0, 0), OUTSIDE);
        is("17: k", x.ring(5, 100, 0), OUTSIDE);
        is("17: i", x.ring(5, 1, -1), OUTSIDE);
        is("17: i", x.ring(5, 1, 5), OUTSIDE);
        is("17: n", x.ring(Integer.MIN_VALUE, 1, 0), OUTSIDE);
        is("17: i", x.ring(999, 1, Integer.MAX_VALUE), OUTSIDE);
    }

    private static void promises18and19() {
        PoorTurns x = new PoorTurns();
        is("18: set", x.count(-1, 0), OUTSIDE);
        is("18: set", x.count(256, 0), OUTSIDE);
        is("18: v", x.count(0, -1), OUTSIDE);
        is("18: v", x.count(0, 9), OUTSIDE);
        is("19: none", x.forget(), 0);
        for (int i = 1; i <= 8; i++) {
            is("18", x.count(255, 8), i);
        }
        is("18: full", x.count(0, 0), FULL);
        is("18: outside ahead of full", x.count(256, 0), OUTSIDE);
        is("18: told", x.told(5), 8);
        is("18: fits", x.ever(-1), 1);
        is("19", x.forget(), 8);
        is("19", x.told(5), 0);
        is("19: all fits", x.ever(-1), 256);
        is("18: more than there are", x.count(1, 2), 1);
        is("18: more than there are", x.ever(-1), 0);
    }

    private static void promise20() {
        PoorTurns x = new PoorTurns();
        for (int i = 0; i < 256; i += 51) {
            is("20: all", x.ever(i), i);
        }
        is("20: above", x.ever(256), NONE);
        is("20: below", x.ever(-2), NONE);
        is("20: below", x.ever(Integer.MIN_VALUE), NONE);
        is("20: above", x.ever(Integer.MAX_VALUE), NONE);
        x.count(129, 1);
        x.count(126, 6);
        is("20: two", x.ever(-1), 2);
        is("20: two", x.ever(0), 127);
        is("20: two", x.ever(1), 254);
        is("20: two", x.ever(2), NONE);
        x.count(0, 1);
        is("20: none", x.ever(-1), 0);
        is("20: none", x.ever(0), NONE);
    }

    private static void promise21() {
        PoorTurns x = new PoorTurns();
        is("21: of all", x.ask(0), 127);
        is("21: of all", x.ask(1), 70);
        x.count(129, 1);
        x.count(126, 6);
        is("21: of two", x.ask(0), 1);
        is("21: of two", x.ask(1), 1);
        x.count(1, 1);
        is("21: of one", x.ask(0), 0);
        is("21: of one", x.ask(1), 1);
        is("21: outside", x.ask(-1), OUTSIDE);
        is("21: outside", x.ask(2), OUTSIDE);
        x.count(0, 1);
        is("21: nothing fits", x.ask(0), NONE);
        is("21: nothing fits", x.ask(1), NONE);
        is("21: outside, though nothing fits", x.ask(2), OUTSIDE);
    }

    private static void promise22() {
        PoorTurns x = new PoorTurns();
        is("22: empty", x.crumbs(0, 0, 0), 0);
        is("22: empty", x.crumbs(0, 0, 1), NONE);
        is("22: one empty", x.crumbs(999, 0, 0), 0);
        is("22: one empty", x.crumbs(0, 999, 1), NONE);
        is("22: alike", x.crumbs(7, 7, 0), 1);
        is("22: alike", x.crumbs(7, 7, 1), 1);
        is("22", x.crumbs(25, 7, 0), 1);
        is("22", x.crumbs(7, 25, 1), 2);
        is("22", x.crumbs(8, 5, 0), 0);
        is("22", x.crumbs(5, 8, 1), NONE);
        is("22", x.crumbs(13, 5, 1), 1);
        is("22: a", x.crumbs(-1, 0, 0), OUTSIDE);
        is("22: a", x.crumbs(1000, 0, 0), OUTSIDE);
        is("22: b", x.crumbs(0, -1, 0), OUTSIDE);
        is("22: b", x.crumbs(0, 1000, 0), OUTSIDE);
        is("22: what", x.crumbs(0, 0, -1), OUTSIDE);
        is("22: what", x.crumbs(0, 0, 2), OUTSIDE);
    }

    private static void fraction(int n, int k, int what, long upper, long lower) {
        PoorTurns x = new PoorTurns();
        is("23: upper " + n + " " + k + " " + what, x.lots(n, k, what, 0), upper);
        is("23: lower " + n + " " + k + " " + what, x.lots(n, k, what, 1), lower);
    }

    private static void promise23() {
        fraction(0, 0, 0, 1, 1);
        fraction(0, 0, 1, 1, 1);
        fraction(1, 0, 0, 0, 1);
        fraction(1, 1, 0, 1, 1);
        fraction(3, 0, 0, 1, 3);
        fraction(3, 2, 0, 0, 1);
        fraction(3, 2, 1, 1, 6);
        fraction(4, 1, 1, 5, 8);
        fraction(12, 0, 1, 1, 1);
        fraction(12, 12, 0, 1, 479001600);
        fraction(12, 11, 1, 1, 479001600);
        PoorTurns x = new PoorTurns();
        int[][] outside = {{-1, 0, 0, 0}, {13, 0, 0, 0}, {5, -1, 0, 0}, {5, 6, 0, 0}, {5, 0, -1, 0},
            {5, 0, 2, 0}, {5, 0, 0, -1}, {5, 0, 0, 2}, {Integer.MIN_VALUE, 0, 0, 0}, {Integer.MAX_VALUE, 0, 0, 1}};
        for (int[] a : outside) {
            is("23: outside", x.lots(a[0], a[1], a[2], a[3]), GONE + OUTSIDE);
        }
    }

    private static void promise24() {
        PoorTurns x = new PoorTurns();
        // By hand: 0 becomes 74 (C comes out: can not be), 5624 (A, 703 by 8: 7, a year).
        is("24: can not be", x.century(0, 1, 1), 0);
        is("24: a year", x.century(0, 2, 1), 1);
        is("24: wealth", x.century(0, 2, 0), 50);
        is("24: nothing given", x.century(0, 2, 2), 0);
        // 7 becomes 599: H (599 by 8: 74, 2) would give B (z 9) 2; B has to be IN for it.
        is("24: not in", x.century(7, 1, 2), 0);
        x.house(1, 50, 1);
        is("24: a gift", x.century(7, 1, 2), 2);
        x.house(7, 1, 0);
        is("24: too little", x.century(7, 1, 2), 0);
        x.house(7, 2, 0);
        is("24: just enough", x.century(7, 1, 2), 2);
        is("24: nothing is done", x.told(17), 2);
        is("24: nothing is done", x.told(171), 0);
        is("24: seed", x.century(-1, 1, 0), OUTSIDE);
        is("24: seed", x.century(10000, 1, 0), OUTSIDE);
        is("24: m", x.century(0, 0, 0), OUTSIDE);
        is("24: m", x.century(0, 100, 0), OUTSIDE);
        is("24: what", x.century(0, 1, -1), OUTSIDE);
        is("24: what", x.century(0, 1, 3), OUTSIDE);
        PoorTurns late = new PoorTurns();
        for (int year = 0; year < 99; year++) {
            late.say('.');
            late.done();
        }
        is("24: year 99", late.told(1), 4);
        is("24: no year behind 99", late.century(0, 2, 1), 0);
        is("24: edges", x.century(9999, 99, 0) >= 0 ? 1 : 0, 1);
    }

    private static void promises25and26() {
        PoorTurns x = with("A^B>A5xAB.");
        x.done();
        x.kin(0, 1, true);
        x.count(15, 2);
        write(x, "xCD");
        is("25", x.image(1), 1);
        x.house(0, 1, 0);
        x.house(5, 2, 1);
        x.gave(1, 0, 77);
        x.gave(6, 7, 78);
        x.map(76543210, 5);
        x.kin(0, 1, false);
        x.kin(6, 7, true);
        x.forget();
        x.count(3, 1);
        x.count(3, 1);
        write(x, ".");
        x.done();
        write(x, "A^");
        is("26: was not kept", x.restore(0), STATE);
        is("26", x.restore(1), 1);
        int[][] told = {{0, 2}, {1, 2}, {2, 10234567}, {3, 1}, {4, 1}, {5, 1}, {10, 55}, {11, 45}, {15, 50},
            {20, 2}, {21, 1}, {26, 0}, {27, 0}, {110, 5}, {167, 0}};
        for (int[] t : told) {
            is("26: told " + t[0], x.told(t[0]), t[1]);
        }
        is("26: sights", x.ever(0), 3);
        is("26: sights", x.ever(-1), 96);
        x.house(0, 7, 0);
        is("25: the other one", x.image(0), 1);
        x.house(0, 8, 0);
        is("26: again", x.restore(1), 1);
        is("26: again", x.told(10), 55);
        is("26: the other one", x.restore(0), 1);
        is("26: the other one", x.told(10), 7);
        x.image(1);
        x.house(0, 9, 0);
        x.restore(1);
        is("25: kept anew", x.told(10), 7);
        for (int k : new int[] {-1, 2, Integer.MIN_VALUE, Integer.MAX_VALUE}) {
            is("25: outside", x.image(k), OUTSIDE);
            is("26: outside", x.restore(k), OUTSIDE);
        }
    }

    private static void promise27() {
        PoorTurns x = new PoorTurns();
        x.house(7, 3, 1);
        x.kin(7, 2, true);
        x.gave(7, 6, 12);
        x.gave(0, 7, 13);
        x.map(12345670, 6);
        x.count(1, 1);
        x.say('.');
        x.done();
        x.say('x');
        int[][] told = {{0, 1}, {1, 128}, {2, 12345670}, {3, 7}, {4, 1}, {5, 1}, {17, 3}, {10, 50}, {27, 4},
            {22, 128}, {176, 12}, {107, 13}, {177, 0}, {100, 0}};
        for (int[] t : told) {
            is("27: told " + t[0], x.told(t[0]), t[1]);
        }
        int[] outside = {-1, 6, 9, 18, 19, 28, 29, 30, 99, 108, 109, 118, 168, 178, 179, 180, 200, 1000,
            Integer.MIN_VALUE, Integer.MAX_VALUE};
        for (int what : outside) {
            is("27: told " + what, x.told(what), OUTSIDE);
        }
    }

    public static void main(String[] args) {
        promise1();
        promise2();
        promise3();
        promise4();
        promise5();
        promises6and7();
        promise8();
        promise9();
        promise10();
        promise11();
        promise12();
        promise13();
        promise14();
        promise15();
        promise16();
        promise17();
        promises18and19();
        promise20();
        promise21();
        promise22();
        promise23();
        promise24();
        promises25and26();
        promise27();
        due.end();
    }
}
