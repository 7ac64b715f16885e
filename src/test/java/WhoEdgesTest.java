/** Promises 18 to 23 at their bounds: sights, who was ever in, whom to ask about, crumbs, lots. */
public final class WhoEdgesTest {
    private static PoorTurns counted(int... sights) {
        PoorTurns x = new PoorTurns();
        for (int i = 0; i < sights.length; i += 2) {
            x.count(sights[i], sights[i + 1]);
        }
        return x;
    }

    // ---- promise 18: count

    static void setsAre0To255(Due due) {
        PoorTurns x = new PoorTurns();
        due.is("-1", x.count(-1, 0), Make.OUTSIDE);
        due.is("0", x.count(0, 0), 1);
        due.is("255", x.count(255, 0), 2);
        due.is("256", x.count(256, 0), Make.OUTSIDE);
    }

    static void countsAre0To8(Due due) {
        PoorTurns x = new PoorTurns();
        due.is("-1", x.count(1, -1), Make.OUTSIDE);
        due.is("0", x.count(1, 0), 1);
        due.is("8", x.count(1, 8), 2);
        due.is("9", x.count(1, 9), Make.OUTSIDE);
    }

    static void eightSightsFitAndNoneMore(Due due) {
        PoorTurns x = new PoorTurns();
        for (int i = 1; i <= 8; i++) {
            due.is("sight " + i, x.count(1 << (i - 1), 1), i);
        }
        due.is("one more", x.count(0, 0), Make.FULL);
        due.is("told(5)", x.told(5), 8);
        due.is("the eighth one counts", x.ever(-1), 1);
        due.is("it is all of them", x.ever(0), 255);
    }

    static void fullSightsRefuseWrongNumbersAsOutside(Due due) {
        PoorTurns x = counted(0, 0, 0, 0, 0, 0, 0, 0, 0, 0, 0, 0, 0, 0, 0, 0);
        due.is("set", x.count(256, 0), Make.OUTSIDE);
        due.is("set", x.count(-1, 0), Make.OUTSIDE);
        due.is("v", x.count(0, 9), Make.OUTSIDE);
        due.is("v", x.count(0, -1), Make.OUTSIDE);
        due.is("both right", x.count(0, 0), Make.FULL);
    }

    static void theSameSightTwiceIsTwo(Due due) {
        PoorTurns x = new PoorTurns();
        due.is("once", x.count(15, 2), 1);
        due.is("twice", x.count(15, 2), 2);
        due.is("as many fit", x.ever(-1), 96);
    }

    static void moreThanTheSetHasMayBeSaid(Due due) {
        PoorTurns x = new PoorTurns();
        due.is("two of one", x.count(1, 2), 1);
        due.is("nothing fits", x.ever(-1), 0);
    }

    static void sightsThatCanNotBothBeMayBeSaid(Due due) {
        PoorTurns x = new PoorTurns();
        due.is("none", x.count(255, 0), 1);
        due.is("all", x.count(255, 8), 2);
        due.is("nothing fits", x.ever(-1), 0);
    }

    // ---- promise 19: forget

    static void forgetNone(Due due) {
        PoorTurns x = new PoorTurns();
        due.is("forget", x.forget(), 0);
        due.is("told(5)", x.told(5), 0);
    }

    static void forgetAllEight(Due due) {
        PoorTurns x = counted(1, 1, 2, 1, 4, 1, 8, 1, 16, 1, 32, 1, 64, 1, 128, 1);
        due.is("forget", x.forget(), 8);
        due.is("again", x.forget(), 0);
        due.is("all fits", x.ever(-1), 256);
        due.is("there is room again", x.count(1, 0), 1);
        due.is("the new one alone counts", x.ever(-1), 128);
    }

    // ---- promise 20: ever

    static void everWithoutSights(Due due) {
        PoorTurns x = new PoorTurns();
        due.is("how many", x.ever(-1), 256);
        for (int i = 0; i < 256; i++) {
            due.is("ever " + i, x.ever(i), i);
        }
        due.is("one behind the last", x.ever(256), Make.NONE);
    }

    static void everBelowMinus1(Due due) {
        due.is("-2", new PoorTurns().ever(-2), Make.NONE);
        due.is("lowest", new PoorTurns().ever(Make.LOWEST), Make.NONE);
        due.is("-2, nothing fits", counted(0, 1).ever(-2), Make.NONE);
    }

    static void everBehindTheLast(Due due) {
        PoorTurns x = counted(254, 7);
        due.is("how many", x.ever(-1), 2);
        due.is("the last", x.ever(1), 255);
        due.is("behind it", x.ever(2), Make.NONE);
        due.is("highest", x.ever(Make.HIGHEST), Make.NONE);
    }

    static void everIfNothingFits(Due due) {
        PoorTurns x = counted(0, 1);
        due.is("how many", x.ever(-1), 0);
        due.is("the first", x.ever(0), Make.NONE);
    }

    static void everOfNobodyAndOfAll(Due due) {
        due.is("nobody, how many", counted(255, 0).ever(-1), 1);
        due.is("nobody", counted(255, 0).ever(0), 0);
        due.is("all, how many", counted(255, 8).ever(-1), 1);
        due.is("all", counted(255, 8).ever(0), 255);
    }

    static void anEmptySetTellsNothing(Due due) {
        due.is("none of none were", counted(0, 0).ever(-1), 256);
    }

    static void everRises(Due due) {
        PoorTurns x = counted(255, 4);
        due.is("how many", x.ever(-1), 70);
        due.is("the first", x.ever(0), 15);
        due.is("the second", x.ever(1), 23);
        due.is("the last", x.ever(69), 240);
        for (int i = 1; i < 70; i++) {
            due.holds("ever " + i + " is more", x.ever(i) > x.ever(i - 1));
        }
    }

    static void everDoesNotHangOnWhoIsIn(Due due) {
        PoorTurns x = counted(1, 0);
        x.house(0, 50, 1);
        due.is("how many", x.ever(-1), 128);
        due.is("the first", x.ever(0), 0);
    }

    // ---- promise 21: ask

    static void askWhatIs0Or1(Due due) {
        for (PoorTurns x : new PoorTurns[] {new PoorTurns(), counted(0, 1)}) {
            due.is("-1", x.ask(-1), Make.OUTSIDE);
            due.is("2", x.ask(2), Make.OUTSIDE);
        }
    }

    static void askIfNothingFits(Due due) {
        due.is("the set", counted(0, 1).ask(0), Make.NONE);
        due.is("how many", counted(0, 1).ask(1), Make.NONE);
    }

    static void askIfOneFits(Due due) {
        for (int v = 0; v <= 8; v += 8) {
            due.is("the least set", counted(255, v).ask(0), 0);
            due.is("how many", counted(255, v).ask(1), 1);
        }
    }

    static void askIfTwoFit(Due due) {
        due.is("house 0 tells", counted(254, 0).ask(0), 1);
        due.is("how many", counted(254, 0).ask(1), 1);
        due.is("house 7 alone tells", counted(127, 0).ask(0), 128);
        due.is("how many", counted(127, 0).ask(1), 1);
    }

    static void askIfAllFit(Due due) {
        due.is("the set", new PoorTurns().ask(0), 127);
        due.is("how many", new PoorTurns().ask(1), 70);
    }

    static void askTellsTheLeastOfSetsAsGood(Due due) {
        // Either house 2 was, or house 3: to ask about 4, 8 and many more sets would tell which.
        PoorTurns x = counted(12, 1, 243, 0);
        due.is("how many fit", x.ever(-1), 2);
        due.is("the set", x.ask(0), 4);
        due.is("how many", x.ask(1), 1);
    }

    static void askIsAskedAnew(Due due) {
        PoorTurns x = counted(0, 1);
        due.is("nothing fits", x.ask(0), Make.NONE);
        x.forget();
        due.is("all fits", x.ask(0), 127);
    }

    // ---- promise 22: crumbs

    private static void crumbs(Due due, int a, int b, int whether, int times) {
        PoorTurns x = new PoorTurns();
        due.is("whether " + a + " " + b, x.crumbs(a, b, 0), whether);
        due.is("whether " + b + " " + a, x.crumbs(b, a, 0), whether);
        due.is("times " + a + " " + b, x.crumbs(a, b, 1), times);
        due.is("times " + b + " " + a, x.crumbs(b, a, 1), times);
    }

    static void crumbsOfEmptyHeaps(Due due) {
        crumbs(due, 0, 0, 0, Make.NONE);
        crumbs(due, 0, 1, 0, Make.NONE);
        crumbs(due, 0, 999, 0, Make.NONE);
    }

    static void crumbsOfHeapsAlike(Due due) {
        crumbs(due, 1, 1, 1, 1);
        crumbs(due, 500, 500, 1, 1);
        crumbs(due, 999, 999, 1, 1);
    }

    static void crumbsOfTwiceTheLess(Due due) {
        crumbs(due, 2, 1, 1, 2);
        crumbs(due, 998, 499, 1, 2);
    }

    static void crumbsOfTheMostTimes(Due due) {
        crumbs(due, 999, 1, 1, 999);
        crumbs(due, 999, 3, 1, 333);
    }

    static void crumbsThatAreLost(Due due) {
        crumbs(due, 3, 2, 0, Make.NONE);
        crumbs(due, 999, 998, 0, Make.NONE);
        crumbs(due, 987, 610, 0, Make.NONE);
    }

    static void crumbsJustOnEitherSideOfLosing(Due due) {
        crumbs(due, 999, 617, 1, 1);
        crumbs(due, 999, 618, 0, Make.NONE);
    }

    static void crumbsWonByLessThanAll(Due due) {
        crumbs(due, 5, 2, 1, 1);
        crumbs(due, 7, 2, 1, 2);
        crumbs(due, 999, 2, 1, 498);
    }

    static void crumbsAre0To999(Due due) {
        PoorTurns x = new PoorTurns();
        for (int what = 0; what <= 1; what++) {
            due.is("a -1", x.crumbs(-1, 5, what), Make.OUTSIDE);
            due.is("a 1000", x.crumbs(1000, 5, what), Make.OUTSIDE);
            due.is("b -1", x.crumbs(5, -1, what), Make.OUTSIDE);
            due.is("b 1000", x.crumbs(5, 1000, what), Make.OUTSIDE);
            due.is("a 1000, b empty", x.crumbs(1000, 0, what), Make.OUTSIDE);
        }
    }

    static void crumbsWhatIs0Or1(Due due) {
        due.is("-1", new PoorTurns().crumbs(5, 5, -1), Make.OUTSIDE);
        due.is("2", new PoorTurns().crumbs(5, 5, 2), Make.OUTSIDE);
        due.is("2, empty", new PoorTurns().crumbs(0, 0, 2), Make.OUTSIDE);
    }

    // ---- promise 23: lots

    private static void lots(Due due, int n, int k, int what, long upper, long lower) {
        PoorTurns x = new PoorTurns();
        due.is("upper " + n + " " + k + " " + what, x.lots(n, k, what, 0), upper);
        due.is("lower " + n + " " + k + " " + what, x.lots(n, k, what, 1), lower);
    }

    private static void refused(Due due, int n, int k, int what, int part) {
        due.is("lots " + n + " " + k, new PoorTurns().lots(n, k, what, part), -1000000000000000002L);
    }

    static void lotsOfNobody(Due due) {
        lots(due, 0, 0, 0, 1, 1);
        lots(due, 0, 0, 1, 1, 1);
    }

    static void lotsOfOne(Due due) {
        lots(due, 1, 0, 0, 0, 1);
        lots(due, 1, 1, 0, 1, 1);
        lots(due, 1, 0, 1, 1, 1);
        lots(due, 1, 1, 1, 1, 1);
    }

    static void lotsOfTwo(Due due) {
        lots(due, 2, 0, 0, 1, 2);
        lots(due, 2, 1, 0, 0, 1);
        lots(due, 2, 2, 0, 1, 2);
        lots(due, 2, 1, 1, 1, 2);
    }

    static void allButOneCanNotDrawTheirOwn(Due due) {
        for (int n = 1; n <= 12; n++) {
            lots(due, n, n - 1, 0, 0, 1);
        }
    }

    static void noneAtLeastIsCertain(Due due) {
        for (int n = 0; n <= 12; n++) {
            lots(due, n, 0, 1, 1, 1);
        }
    }

    static void allDrawTheirOwn(Due due) {
        lots(due, 3, 3, 0, 1, 6);
        lots(due, 12, 12, 0, 1, 479001600);
        lots(due, 12, 12, 1, 1, 479001600);
        lots(due, 12, 11, 1, 1, 479001600);
    }

    static void lotsAreToldInLowestTerms(Due due) {
        lots(due, 12, 0, 0, 16019531, 43545600);
        lots(due, 12, 10, 0, 1, 7257600);
        lots(due, 12, 10, 1, 67, 479001600);
        lots(due, 4, 2, 0, 1, 4);
    }

    static void lotsAreOf0To12(Due due) {
        for (int part = 0; part <= 1; part++) {
            refused(due, -1, 0, 0, part);
            refused(due, -1, -1, 0, part);
            refused(due, 13, 0, 0, part);
            refused(due, 13, 13, 1, part);
        }
    }

    static void ownLotsAre0ToAll(Due due) {
        for (int n = 0; n <= 12; n++) {
            refused(due, n, -1, 0, 0);
            refused(due, n, n + 1, 0, 0);
            refused(due, n, -1, 1, 1);
            refused(due, n, n + 1, 1, 1);
        }
    }

    static void lotsWhatAndPartAre0Or1(Due due) {
        refused(due, 4, 2, -1, 0);
        refused(due, 4, 2, 2, 0);
        refused(due, 4, 2, 0, -1);
        refused(due, 4, 2, 0, 2);
    }

    public static void main(String[] args) {
        Cases.run(WhoEdgesTest.class);
    }
}
