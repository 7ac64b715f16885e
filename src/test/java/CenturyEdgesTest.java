/** Promise 24 at its bounds. What a seed draws first was worked out by hand: 75 times it and 74, by 65537. */
public final class CenturyEdgesTest {
    private static final int A_GOES_IN = 34;         // 2624: A, 328 leaves 0
    private static final int H_GOES_IN = 23;         // 1799: H, 224 leaves 0
    private static final int A_COMES_OUT = 58;       // 4424: A, 553 leaves 1
    private static final int H_GIVES_B_2 = 7;        // 599: H, 74 leaves 2, z is 9
    private static final int B_GIVES_A_3 = 13;       // 1049: B, 131 leaves 3, z is 16
    private static final int A_GIVES_D_1 = 2;        // 224: A, 28 leaves 4, z is 3
    private static final int A_GIVES_B_9 = 362;      // 27224: A, 3403 leaves 3, z is 425: 53 leaves 8
    private static final int B_GIVES_A_9 = 1112;     // 83474 leaves 17937: B, 2242 leaves 2, z is 280: 35 leaves 8
    private static final int A_GIVES_A_9 = 2416;     // 181274 leaves 50200: A, 6275 leaves 3, z is 784: 98 leaves 8
    private static final int C_CHANGES_THEN_A_YEAR = 90;    // 6824: A, 853 leaves 5, z is 106: C; 53115: a year
    private static final int A_YEAR_BY_6 = 4;        // 374: 46 leaves 6
    private static final int A_YEAR_BY_7 = 10;       // 824: 103 leaves 7

    private static PoorTurns house(int house, int wealth, int isIn) {
        PoorTurns x = new PoorTurns();
        x.house(house, wealth, isIn);
        return x;
    }

    private static void century(Due due, PoorTurns x, int seed, int wealth, int in, int given) {
        due.is("wealth of " + seed, x.century(seed, 1, 0), wealth);
        due.is("in of " + seed, x.century(seed, 1, 1), in);
        due.is("given of " + seed, x.century(seed, 1, 2), given);
    }

    static void seedsAre0To9999(Due due) {
        PoorTurns x = house(2, 50, 1);
        due.is("-1", x.century(-1, 1, 1), Make.OUTSIDE);
        due.is("0: C comes out", x.century(0, 1, 1), 0);
        x.house(6, 50, 1);
        due.is("9999: E gives G 3", x.century(9999, 1, 2), 3);
        due.is("10000", x.century(10000, 1, 2), Make.OUTSIDE);
    }

    static void actsAre1To99(Due due) {
        PoorTurns x = new PoorTurns();
        due.is("0", x.century(5, 0, 0), Make.OUTSIDE);
        due.is("-1", x.century(5, -1, 0), Make.OUTSIDE);
        due.is("1: B goes in", x.century(5, 1, 1), 2);
        for (int what = 0; what <= 2; what++) {
            due.is("99", x.century(5, 99, what), new Model().century(5, 99, what));
            due.is("99", x.century(9999, 99, what), new Model().century(9999, 99, what));
            due.is("100", x.century(5, 100, what), Make.OUTSIDE);
        }
    }

    static void theNinetyNinthActCounts(Due due) {
        int differ = 0;
        for (int seed = 0; seed < 100; seed++) {
            PoorTurns x = new PoorTurns();
            due.is("seed " + seed, x.century(seed, 99, 1), new Model().century(seed, 99, 1));
            differ += x.century(seed, 99, 1) == x.century(seed, 98, 1) ? 0 : 1;
        }
        due.holds("some differ from 98", differ > 0);
    }

    static void centuryWhatIs0To2(Due due) {
        due.is("-1", new PoorTurns().century(5, 5, -1), Make.OUTSIDE);
        due.is("3", new PoorTurns().century(5, 5, 3), Make.OUTSIDE);
    }

    static void whatIsLeftOverBy65537(Due due) {
        due.is("872 is left at 65474: C goes in", new PoorTurns().century(872, 1, 1), 4);
        due.is("5242 leaves 2: C goes in", new PoorTurns().century(5242, 1, 1), 4);
        due.is("873 leaves 12: E comes out", house(4, 50, 1).century(873, 1, 1), 0);
    }

    static void goingIn(Due due) {
        century(due, new PoorTurns(), A_GOES_IN, 50, 1, 0);
        century(due, new PoorTurns(), H_GOES_IN, 50, 128, 0);
        century(due, house(0, 50, 1), A_GOES_IN, 50, 1, 0);
    }

    static void comingOut(Due due) {
        century(due, house(0, 50, 1), A_COMES_OUT, 50, 0, 0);
        century(due, house(1, 50, 1), A_COMES_OUT, 50, 2, 0);
    }

    static void giftsByAllThreeDraws(Due due) {
        century(due, house(1, 50, 1), H_GIVES_B_2, 50, 2, 2);
        century(due, house(0, 50, 1), B_GIVES_A_3, 53, 1, 3);
        century(due, house(3, 50, 1), A_GIVES_D_1, 49, 8, 1);
    }

    static void aGiftOf9IsTheMost(Due due) {
        century(due, house(1, 50, 1), A_GIVES_B_9, 41, 2, 9);
        century(due, house(0, 50, 1), B_GIVES_A_9, 59, 1, 9);
    }

    static void aGiftToOneThatIsNotIn(Due due) {
        century(due, new PoorTurns(), A_GIVES_B_9, 50, 0, 0);
    }

    static void aGiftOfOneThatIsIn(Due due) {
        PoorTurns x = house(1, 50, 1);
        x.house(0, 50, 1);
        century(due, x, A_GIVES_B_9, 50, 3, 0);
    }

    static void aGiftToItself(Due due) {
        century(due, new PoorTurns(), A_GIVES_A_9, 50, 0, 0);
        century(due, house(0, 50, 1), A_GIVES_A_9, 50, 1, 0);
    }

    static void aGiftOfTooLittle(Due due) {
        PoorTurns x = house(1, 50, 1);
        x.house(0, 8, 0);
        century(due, x, A_GIVES_B_9, 8, 2, 0);
        x.house(0, 9, 0);
        century(due, x, A_GIVES_B_9, 0, 2, 9);
    }

    static void aGiftAbove999(Due due) {
        century(due, house(0, 990, 1), B_GIVES_A_9, 999, 1, 9);
        century(due, house(0, 991, 1), B_GIVES_A_9, 999, 1, 9);
        century(due, house(0, 999, 1), B_GIVES_A_9, 999, 1, 9);
    }

    static void aChangeOnTheMap(Due due) {
        PoorTurns x = new PoorTurns();
        due.is("nobody went in", x.century(C_CHANGES_THEN_A_YEAR, 1, 1), 0);
        due.is("C did, where A was", x.century(C_CHANGES_THEN_A_YEAR, 2, 1), 4);
        due.is("the map stays", x.told(2), 1234567);
    }

    static void yearsByBothDraws(Due due) {
        PoorTurns x = house(5, 50, 1);
        x.map(76543210, 7);
        century(due, x, A_YEAR_BY_6, 50, 1, 0);
        century(due, x, A_YEAR_BY_7, 50, 1, 0);
    }

    static void noYearBehind99(Due due) {
        PoorTurns last = Make.inYear(99);
        due.is("C is in", last.told(1), 4);
        century(due, last, A_YEAR_BY_6, 50, 4, 0);
        century(due, last, A_YEAR_BY_7, 50, 4, 0);
        PoorTurns ahead = Make.inYear(98);
        due.is("B is in", ahead.told(1), 2);
        century(due, ahead, A_YEAR_BY_6, 50, 4, 0);
    }

    static void oneThatCanNotBeIsOneOfThem(Due due) {
        PoorTurns x = new PoorTurns();
        due.is("C can not come out", x.century(0, 1, 1), 0);
        due.is("then there is a year", x.century(0, 2, 1), 1);
    }

    static void fromAllAsItIsNotAsOnThePad(Due due) {
        PoorTurns x = Make.with("A^");
        due.is("a text", x.century(A_COMES_OUT, 1, 1), 0);
        due.is("a text", x.century(H_GOES_IN, 1, 1), 128);
        x.say('!');
        due.is("a fault", x.century(H_GOES_IN, 1, 1), 128);
        due.is("one that can not be", Make.with("A_").century(H_GOES_IN, 1, 1), 128);
    }

    static void nothingIsDoneInFact(Due due) {
        PoorTurns x = Make.with("A^B>A1");
        for (int what = 0; what <= 2; what++) {
            x.century(5, 99, what);
        }
        due.holds("all is as it was", Seen.of(x).equals(Seen.of(Make.with("A^B>A1"))));
    }

    static void theSameSeedTellsTheSame(Due due) {
        PoorTurns x = new PoorTurns();
        int once = x.century(5, 90, 0);
        x.century(6, 99, 0);
        due.is("again", x.century(5, 90, 0), once);
    }

    public static void main(String[] args) {
        Cases.run(CenturyEdgesTest.class);
    }
}
