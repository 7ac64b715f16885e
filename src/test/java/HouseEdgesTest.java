/** Promises 1 to 5 and their terms, at their bounds: a new object, houses, what was given, the map, kin. */
public final class HouseEdgesTest {
    // ---- promise 1: at first

    static void atFirstNobodyIsIn(Due due) {
        due.is("told(1)", new PoorTurns().told(1), 0);
        due.is("parish(0)", new PoorTurns().parish(0), 0);
        for (int house = 0; house < 8; house++) {
            due.is("behind " + house, new PoorTurns().behind(house, 1), 0);
        }
    }

    static void atFirstWealthIs50(Due due) {
        for (int house = 0; house < 8; house++) {
            due.is("told", new PoorTurns().told(10 + house), 50);
            due.is("house", new PoorTurns().house(house, 0, 0), 50);
        }
    }

    static void atFirstNothingWasGiven(Due due) {
        PoorTurns x = new PoorTurns();
        for (int one = 0; one < 8; one++) {
            for (int other = 0; other < 8; other++) {
                due.is("told", x.told(100 + 10 * one + other), 0);
            }
            due.is("due", x.due(one), 10000);
        }
    }

    static void atFirstTheMapIsInOrderAndNextIs0(Due due) {
        due.is("told(2)", new PoorTurns().told(2), 1234567);
        due.is("told(3)", new PoorTurns().told(3), 0);
        due.is("map", new PoorTurns().map(76543210, 7), 12345670);
    }

    static void atFirstNoTwoAreKin(Due due) {
        PoorTurns x = new PoorTurns();
        for (int house = 0; house < 8; house++) {
            due.is("told", x.told(20 + house), 0);
        }
        due.is("kin", x.kin(0, 1, false), 0);
    }

    static void atFirstItIsYear0(Due due) {
        due.is("told(4)", new PoorTurns().told(4), 0);
        due.is("parish(3)", new PoorTurns().parish(3), 0);
    }

    static void atFirstThePadIsEmpty(Due due) {
        due.is("told(0)", new PoorTurns().told(0), 0);
        due.is("wipe", new PoorTurns().wipe(), 0);
        due.is("done", new PoorTurns().done(), 0);
    }

    static void atFirstThereAreNoSights(Due due) {
        due.is("told(5)", new PoorTurns().told(5), 0);
        due.is("forget", new PoorTurns().forget(), 0);
    }

    static void atFirstNoImageIsKept(Due due) {
        due.is("restore(0)", new PoorTurns().restore(0), Make.STATE);
        due.is("restore(1)", new PoorTurns().restore(1), Make.STATE);
    }

    static void objectsStandEachByItself(Due due) {
        PoorTurns other = new PoorTurns();
        PoorTurns one = Make.with("A^.");
        one.done();
        one.house(0, 1, 1);
        one.gave(0, 1, 1);
        one.map(76543210, 7);
        one.kin(0, 1, true);
        one.count(1, 1);
        one.image(0);
        one.say('A');
        due.is("told(0)", other.told(0), 0);
        due.is("told(1)", other.told(1), 0);
        due.is("told(2)", other.told(2), 1234567);
        due.is("told(5)", other.told(5), 0);
        due.is("told(10)", other.told(10), 50);
        due.is("told(20)", other.told(20), 0);
        due.is("told(101)", other.told(101), 0);
        due.is("restore(0)", other.restore(0), Make.STATE);
    }

    // ---- promise 2: house

    static void housesAre0To7(Due due) {
        PoorTurns x = new PoorTurns();
        due.is("house 0", x.house(0, 1, 0), 50);
        due.is("house 7", x.house(7, 1, 0), 50);
        due.is("house -1", x.house(-1, 1, 0), Make.UNKNOWN);
        due.is("house 8", x.house(8, 1, 0), Make.UNKNOWN);
    }

    static void wealthMayBe0ButNotLess(Due due) {
        PoorTurns x = new PoorTurns();
        due.is("0", x.house(3, 0, 0), 50);
        due.is("told", x.told(13), 0);
        due.is("-1", x.house(3, -1, 0), Make.OUTSIDE);
    }

    static void wealthMayBe999ButNotMore(Due due) {
        PoorTurns x = new PoorTurns();
        due.is("999", x.house(3, 999, 0), 50);
        due.is("told", x.told(13), 999);
        due.is("1000", x.house(3, 1000, 0), Make.OUTSIDE);
    }

    static void isInIs1Or0(Due due) {
        PoorTurns x = new PoorTurns();
        due.is("1", x.house(3, 50, 1), 50);
        due.is("told", x.told(1), 8);
        due.is("0", x.house(3, 50, 0), 50);
        due.is("told", x.told(1), 0);
        due.is("-1", x.house(3, 50, -1), Make.OUTSIDE);
        due.is("2", x.house(3, 50, 2), Make.OUTSIDE);
    }

    static void oneThatIsInMayBePutInAgain(Due due) {
        PoorTurns x = new PoorTurns();
        x.house(7, 1, 1);
        due.is("in again", x.house(7, 2, 1), 1);
        due.is("told", x.told(1), 128);
        x.house(7, 3, 0);
        due.is("out again", x.house(7, 4, 0), 3);
        due.is("told", x.told(1), 0);
    }

    static void allMayBeInAtOnce(Due due) {
        PoorTurns x = new PoorTurns();
        for (int house = 0; house < 8; house++) {
            x.house(house, 50, 1);
            due.is("told", x.told(1), (2 << house) - 1);
        }
        x.house(0, 50, 0);
        due.is("all but the first one", x.told(1), 254);
    }

    static void houseTellsWhatItHadNotWhatItHas(Due due) {
        PoorTurns x = new PoorTurns();
        due.is("at first", x.house(0, 999, 0), 50);
        due.is("then", x.house(0, 0, 0), 999);
        due.is("then", x.house(0, 0, 0), 0);
        due.is("another one has its own", x.house(1, 7, 0), 50);
    }

    // ---- promise 3: gave

    static void bothWhoGaveAreHouses(Due due) {
        PoorTurns x = new PoorTurns();
        due.is("0, 7", x.gave(0, 7, 1), 0);
        due.is("7, 0", x.gave(7, 0, 2), 0);
        due.is("-1, 0", x.gave(-1, 0, 1), Make.UNKNOWN);
        due.is("8, 0", x.gave(8, 0, 1), Make.UNKNOWN);
        due.is("0, -1", x.gave(0, -1, 1), Make.UNKNOWN);
        due.is("0, 8", x.gave(0, 8, 1), Make.UNKNOWN);
        due.is("8, 8", x.gave(8, 8, 1), Make.UNKNOWN);
        due.is("told", x.told(107), 1);
        due.is("told", x.told(170), 2);
    }

    static void noneGaveItself(Due due) {
        PoorTurns x = new PoorTurns();
        for (int house = 0; house < 8; house++) {
            due.is("gave " + house, x.gave(house, house, 1), Make.UNKNOWN);
            due.is("told " + house, x.told(100 + 11 * house), 0);
        }
    }

    static void whatWasGivenIs0To999(Due due) {
        PoorTurns x = new PoorTurns();
        due.is("999", x.gave(2, 5, 999), 0);
        due.is("0", x.gave(2, 5, 0), 999);
        due.is("was 0", x.gave(2, 5, 1), 0);
        due.is("-1", x.gave(2, 5, -1), Make.OUTSIDE);
        due.is("1000", x.gave(2, 5, 1000), Make.OUTSIDE);
        due.is("stays", x.told(125), 1);
    }

    static void whatWasGivenIsToldNotHanded(Due due) {
        PoorTurns x = new PoorTurns();
        x.gave(0, 1, 40);
        due.is("the giver's wealth", x.told(10), 50);
        due.is("the other one's", x.told(11), 50);
        due.is("the other way", x.told(110), 0);
    }

    // ---- promise 4: map

    static void theLeastAndTheGreatestRow(Due due) {
        PoorTurns x = new PoorTurns();
        due.is("greatest", x.map(76543210, 0), 12345670);
        due.is("told", x.told(2), 76543210);
        due.is("least", x.map(1234567, 0), 765432100);
        due.is("told", x.told(2), 1234567);
        due.is("beneath the least", x.map(1234566, 0), Make.OUTSIDE);
        due.is("beyond the greatest", x.map(76543211, 0), Make.OUTSIDE);
    }

    static void noughtsAheadVanishAndCountAllTheSame(Due due) {
        PoorTurns x = new PoorTurns();
        x.map(7654321, 5);
        due.is("told", x.told(2), 7654321);
        due.is("the first place", x.behind(0, 2), 0);
        due.is("the last place", x.behind(1, 2), 7);
        due.is("as it was", x.map(10234567, 0), 76543215);
    }

    static void aNoughtMayBeLast(Due due) {
        PoorTurns x = new PoorTurns();
        x.map(12345670, 0);
        due.is("told", x.told(2), 12345670);
        due.is("as it was", x.map(76543210, 0), 123456700);
    }

    static void aRowHasEachHouseOnce(Due due) {
        PoorTurns x = new PoorTurns();
        int[] noRows = {0, 7, 234567, 11234567, 76543211, 1234566, 77777777, 11111111};
        for (int row : noRows) {
            due.is("row " + row, x.map(row, 0), Make.OUTSIDE);
        }
    }

    static void aRowHasNo8And9(Due due) {
        PoorTurns x = new PoorTurns();
        int[] noRows = {8, 1234568, 1234569, 81234567, 91234567, 12345678, 98765432, 1834567, 1934567};
        for (int row : noRows) {
            due.is("row " + row, x.map(row, 0), Make.OUTSIDE);
        }
    }

    static void aRowHasEightDigits(Due due) {
        PoorTurns x = new PoorTurns();
        int[] noRows = {123456, 101234567, 701234567, 112345670, 176543210, 1001234567, 1234567012, 2001234567,
            Make.HIGHEST};
        for (int row : noRows) {
            due.is("row " + row, x.map(row, 0), Make.OUTSIDE);
        }
    }

    static void aRowIsNotBelow0(Due due) {
        PoorTurns x = new PoorTurns();
        int[] noRows = {-1, -1234567, -76543210, Make.LOWEST, Make.LOWEST + 1};
        for (int row : noRows) {
            due.is("row " + row, x.map(row, 0), Make.OUTSIDE);
        }
    }

    static void nextIsAPlace0To7(Due due) {
        PoorTurns x = new PoorTurns();
        due.is("7", x.map(1234567, 7), 12345670);
        due.is("0", x.map(1234567, 0), 12345677);
        due.is("was 0", x.map(1234567, 3), 12345670);
        due.is("-1", x.map(1234567, -1), Make.OUTSIDE);
        due.is("8", x.map(1234567, 8), Make.OUTSIDE);
        due.is("10", x.map(1234567, 10), Make.OUTSIDE);
        due.is("stays", x.told(3), 3);
    }

    static void theMapChangesWholeOrNotAtAll(Due due) {
        PoorTurns x = new PoorTurns();
        x.map(76543210, 4);
        due.is("a row, no place", x.map(1234567, 8), Make.OUTSIDE);
        due.is("told(2)", x.told(2), 76543210);
        due.is("a place, no row", x.map(1234566, 2), Make.OUTSIDE);
        due.is("told(3)", x.told(3), 4);
    }

    static void theGreatestMapAndNext(Due due) {
        PoorTurns x = new PoorTurns();
        x.map(76543210, 7);
        due.is("as they were", x.map(1234567, 0), 765432107);
    }

    // ---- promise 5: kin

    static void bothKinAreHouses(Due due) {
        PoorTurns x = new PoorTurns();
        due.is("0, 7", x.kin(0, 7, true), 1);
        for (boolean is : new boolean[] {true, false}) {
            due.is("-1, 0", x.kin(-1, 0, is), Make.UNKNOWN);
            due.is("8, 0", x.kin(8, 0, is), Make.UNKNOWN);
            due.is("0, -1", x.kin(0, -1, is), Make.UNKNOWN);
            due.is("0, 8", x.kin(0, 8, is), Make.UNKNOWN);
        }
        due.is("told", x.told(20), 128);
        due.is("told", x.told(27), 1);
    }

    static void noneIsKinToItself(Due due) {
        PoorTurns x = new PoorTurns();
        for (int house = 0; house < 8; house++) {
            due.is("is", x.kin(house, house, true), Make.UNKNOWN);
            due.is("is not", x.kin(house, house, false), Make.UNKNOWN);
            due.is("told", x.told(20 + house), 0);
        }
    }

    static void twoAreKinBothWays(Due due) {
        PoorTurns x = new PoorTurns();
        x.kin(6, 2, true);
        due.is("told", x.told(22), 64);
        due.is("told", x.told(26), 4);
        due.is("the other way is the same two", x.kin(2, 6, true), 1);
        due.is("and goes the other way", x.kin(2, 6, false), 0);
        due.is("told", x.told(26), 0);
    }

    static void kinTwiceAreKinOnce(Due due) {
        PoorTurns x = new PoorTurns();
        due.is("once", x.kin(0, 1, true), 1);
        due.is("twice", x.kin(0, 1, true), 1);
        due.is("no more", x.kin(0, 1, false), 0);
        due.is("no more, twice", x.kin(0, 1, false), 0);
        due.is("never were", x.kin(3, 4, false), 0);
    }

    static void at28AllAreKin(Due due) {
        PoorTurns x = new PoorTurns();
        int two = 0;
        for (int one = 0; one < 8; one++) {
            for (int other = one + 1; other < 8; other++) {
                two++;
                due.is("one more", x.kin(one, other, true), two);
            }
        }
        due.is("all of them", two, 28);
        for (int house = 0; house < 8; house++) {
            due.is("told", x.told(20 + house), 255 - (1 << house));
        }
        due.is("one less", x.kin(7, 6, false), 27);
    }

    public static void main(String[] args) {
        Cases.run(HouseEdgesTest.class);
    }
}
