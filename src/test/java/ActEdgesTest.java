/** Acts at their bounds: what each does, and for which reason one can not be. */
public final class ActEdgesTest {
    private static PoorTurns rich(int house, int wealth, int isIn) {
        PoorTurns x = new PoorTurns();
        x.house(house, wealth, isIn);
        return x;
    }

    private static void judged(Due due, PoorTurns x, String text, int act, int why) {
        Make.rewrite(x, text);
        due.is("act of " + text, x.judge(0), act);
        due.is("why of " + text, x.judge(1), why);
    }

    private static void canBe(Due due, PoorTurns x, String text) {
        judged(due, x, text, Make.NONE, Make.NONE);
    }

    // ---- what acts do

    static void theFirstAndTheLastHouseGoInAndComeOut(Due due) {
        due.is("A^", Make.with("A^").parish(0), 1);
        due.is("H^", Make.with("H^").parish(0), 128);
        due.is("A^H^A_", Make.with("A^H^A_").parish(0), 128);
        due.is("A^H^H_", Make.with("A^H^H_").parish(0), 1);
    }

    static void eachHouseGoesInAndComesOut(Due due) {
        for (int house = 0; house < 8; house++) {
            PoorTurns x = Make.with((char) ('A' + house) + "^");
            due.is("in " + house, x.parish(0), 1 << house);
            Make.write(x, (char) ('A' + house) + "_");
            due.is("out " + house, x.parish(0), 0);
        }
    }

    /** Whatever was given, told as one number: 1000 for the giver, 100 for the other one, and how much. */
    private static int accounts(PoorTurns x) {
        int sum = 0;
        for (int one = 0; one < 8; one++) {
            for (int other = 0; other < 8; other++) {
                int much = x.told(100 + 10 * one + other);
                sum += much == 0 ? 0 : 10000 + 1000 * one + 100 * other + much;
            }
        }
        return sum;
    }

    static void eachHouseGivesEachOtherOne(Due due) {
        for (int pair = 0; pair < 64; pair++) {
            int one = pair / 8;
            int other = pair % 8;
            if (one != other) {
                PoorTurns x = rich(other, 50, 1);
                Make.write(x, (char) ('A' + one) + ">" + (char) ('A' + other) + "7").done();
                due.is("given " + pair, accounts(x), 10000 + 1000 * one + 100 * other + 7);
                due.is("the giver " + pair, x.told(10 + one), 43);
                due.is("the other one " + pair, x.told(10 + other), 57);
            }
        }
    }

    static void eachTwoChangePlaces(Due due) {
        for (int pair = 0; pair < 64; pair++) {
            int one = pair / 8;
            int other = pair % 8;
            if (one != other) {
                PoorTurns x = Make.with("x" + (char) ('A' + one) + (char) ('A' + other));
                for (int house = 0; house < 8; house++) {
                    int place = house == one ? other : house == other ? one : house;
                    due.is("place " + pair, x.behind(house, 2), place);
                }
            }
        }
    }

    static void wealthOfTheOtherOneIs999AtMost(Due due) {
        int[][] wealth = {{989, 998}, {990, 999}, {991, 999}, {998, 999}, {999, 999}};
        for (int[] w : wealth) {
            PoorTurns x = rich(1, w[0], 1);
            Make.write(x, "A>B9");
            due.is("behind, from " + w[0], x.behind(1, 0), w[1]);
            due.is("done", x.done(), 1);
            due.is("told, from " + w[0], x.told(11), w[1]);
        }
    }

    static void theGiverHasLessEvenIfTheOtherOneHasNoMore(Due due) {
        PoorTurns x = Make.write(rich(1, 999, 1), "A>B9");
        due.is("the giver", x.behind(0, 0), 41);
        due.is("in all", x.parish(1), 41 + 999 + 300);
        due.is("given", x.judge(2), 9);
        x.done();
        due.is("gave", x.told(101), 9);
    }

    static void whatOneGaveAnotherIs999AtMost(Due due) {
        int[][] gave = {{989, 998}, {990, 999}, {991, 999}, {998, 999}, {999, 999}};
        for (int[] g : gave) {
            PoorTurns x = rich(1, 0, 1);
            x.gave(0, 1, g[0]);
            Make.write(x, "A>B9").done();
            due.is("gave, from " + g[0], x.told(101), g[1]);
            due.is("wealth of the giver", x.told(10), 41);
            due.is("wealth of the other one", x.told(11), 9);
        }
    }

    static void aGiftCountsOneWayAlone(Due due) {
        PoorTurns x = Make.write(rich(7, 0, 1), "A>H1");
        x.done();
        due.is("gave", x.told(107), 1);
        due.is("the other way", x.told(170), 0);
    }

    static void theLastCrumbMayBeGiven(Due due) {
        PoorTurns x = rich(1, 50, 1);
        x.house(0, 9, 0);
        canBe(due, x, "A>B9");
        due.is("nothing is left", x.behind(0, 0), 0);
        x.house(0, 1, 0);
        canBe(due, x, "A>B1");
        due.is("nothing is left", x.behind(0, 0), 0);
    }

    static void theEndsOfTheMapChangePlaces(Due due) {
        PoorTurns x = Make.with("xAH");
        due.is("A", x.behind(0, 2), 7);
        due.is("H", x.behind(7, 2), 0);
        due.is("B", x.behind(1, 2), 1);
        x.done();
        due.is("told(2)", x.told(2), 71234560);
        Make.write(x, "xAH").done();
        due.is("back again", x.told(2), 1234567);
    }

    static void housesChangePlacesNotThePlaces(Due due) {
        PoorTurns x = new PoorTurns();
        x.map(76543210, 0);
        Make.write(x, "xAB").done();
        due.is("told(2)", x.told(2), 76543201);
        due.is("next stays", x.told(3), 0);
    }

    static void aChangeOnTheMapChangesWhoIsNext(Due due) {
        due.is("xAD.", Make.with("xAD.").parish(0), 8);
        due.is(".xAD", Make.with(".xAD").parish(0), 1);
    }

    static void thoseWhoAreInMayChangePlacesToo(Due due) {
        PoorTurns x = Make.with("A^xAB");
        due.is("in", x.parish(0), 1);
        due.is("place", x.behind(0, 2), 1);
    }

    static void atLadyDayAllComeOut(Due due) {
        PoorTurns x = new PoorTurns();
        for (int house = 0; house < 8; house++) {
            x.house(house, 50, 1);
        }
        x.map(1234567, 3);
        x.say('.');
        due.is("all were in", x.parish(0), 8);
    }

    static void aYearWithNobodyIn(Due due) {
        due.is("the first one goes in", Make.with(".").parish(0), 1);
    }

    static void theOneAtNextMayBeInAlready(Due due) {
        PoorTurns x = rich(0, 50, 1);
        canBe(due, x, ".");
        due.is("in all the same", x.parish(0), 1);
        due.is("A^.", Make.with("A^.").parish(0), 1);
    }

    static void nextIs0Behind7(Due due) {
        PoorTurns x = new PoorTurns();
        x.map(1234567, 7);
        x.say('.');
        due.is("the last one is in", x.parish(0), 128);
        due.is("next", x.parish(2), 0);
        x.say('.');
        due.is("the first one is in", x.parish(0), 1);
        due.is("next", x.parish(2), 1);
    }

    static void eightYearsGoRoundTheMap(Due due) {
        PoorTurns x = new PoorTurns();
        x.map(30715264, 5);
        int[] in = {2, 6, 4, 3, 0, 7, 1, 5};
        for (int year = 0; year < 8; year++) {
            x.say('.');
            due.is("in year " + year, x.parish(0), 1 << in[year]);
        }
        due.is("next", x.parish(2), 5);
        due.is("years", x.parish(3), 8);
    }

    static void aYearGivesNobodyAnything(Due due) {
        PoorTurns x = Make.with("........");
        due.is("in all", x.parish(1), 400);
        due.is("given", x.judge(2), 0);
    }

    // ---- the reasons

    static void reason1OneThatIsInGoesIn(Due due) {
        judged(due, rich(0, 50, 1), "A^", 0, 1);
        judged(due, new PoorTurns(), "A^A^", 1, 1);
        judged(due, new PoorTurns(), ".A^", 1, 1);
        canBe(due, new PoorTurns(), ".B^");
        canBe(due, new PoorTurns(), "A^A_A^");
    }

    static void reason1OneThatIsNotInComesOut(Due due) {
        judged(due, new PoorTurns(), "H_", 0, 1);
        judged(due, new PoorTurns(), "H^H_H_", 2, 1);
        judged(due, rich(7, 50, 1), ".H_", 1, 1);
        canBe(due, rich(7, 50, 1), "H_");
        canBe(due, new PoorTurns(), ".A_");
    }

    static void reason2BothAreOne(Due due) {
        for (char house = 'A'; house <= 'H'; house++) {
            judged(due, new PoorTurns(), "x" + house + house, 0, 2);
            judged(due, new PoorTurns(), house + ">" + house + "1", 0, 2);
        }
    }

    static void reason2GoesAheadOf3And4(Due due) {
        judged(due, new PoorTurns(), "A>A1", 0, 2);
        judged(due, rich(0, 50, 1), "A>A1", 0, 2);
        judged(due, rich(0, 0, 0), "A>A1", 0, 2);
        judged(due, rich(0, 0, 1), "A>A9", 0, 2);
    }

    static void reason3TheGiverIsIn(Due due) {
        PoorTurns x = rich(1, 50, 1);
        x.house(0, 50, 1);
        judged(due, x, "A>B1", 0, 3);
        canBe(due, x, "A_A>B1");
    }

    static void reason3TheOtherOneIsNot(Due due) {
        judged(due, new PoorTurns(), "A>B1", 0, 3);
        canBe(due, new PoorTurns(), "B^A>B1");
        judged(due, new PoorTurns(), "B^B_A>B1", 2, 3);
    }

    static void reason3BothAtOnce(Due due) {
        judged(due, rich(0, 50, 1), "A>B1", 0, 3);
    }

    static void reason3GoesAheadOf4(Due due) {
        judged(due, rich(0, 0, 0), "A>B1", 0, 3);
        judged(due, rich(0, 0, 1), "A>B9", 0, 3);
        PoorTurns bothIn = rich(0, 0, 1);
        bothIn.house(1, 50, 1);
        judged(due, bothIn, "A>B9", 0, 3);
    }

    static void reason4TooLittle(Due due) {
        for (int much = 1; much <= 9; much++) {
            PoorTurns x = rich(1, 50, 1);
            x.house(0, much - 1, 0);
            judged(due, x, "A>B" + much, 0, 4);
            x.house(0, much, 0);
            canBe(due, x, "A>B" + much);
        }
    }

    static void reason4OnceTheGiverHasGivenAll(Due due) {
        PoorTurns x = rich(1, 50, 1);
        x.house(0, 9, 0);
        judged(due, x, "A>B5A>B4A>B1", 2, 4);
        judged(due, x, "A>B5A>B5", 1, 4);
    }

    static void whatOneWasGivenOneMayGive(Due due) {
        PoorTurns x = rich(0, 0, 1);
        canBe(due, x, "B>A3A_C^A>C3");
        judged(due, x, "B>A3A_C^A>C4", 3, 4);
    }

    static void whatWasLostAbove999CanNotBeGiven(Due due) {
        PoorTurns x = rich(0, 995, 1);
        due.is("at most 999", Make.write(x, "B>A9").behind(0, 0), 999);
        due.is("and no more behind it", Make.write(x, "A_C^A>C9").behind(0, 0), 990);
    }

    static void reason5ItIsYear99(Due due) {
        PoorTurns x = Make.inYear(99);
        due.is("told(4)", x.told(4), 99);
        judged(due, x, ".", 0, 5);
        judged(due, x, "xAB.", 1, 5);
        due.is("done", x.done(), Make.STATE);
        due.is("it stays", x.told(4), 99);
    }

    static void year99MayCome(Due due) {
        PoorTurns x = Make.inYear(98);
        due.is("told(4)", x.told(4), 98);
        canBe(due, x, ".");
        due.is("parish(3)", x.parish(3), 99);
        judged(due, x, "..", 1, 5);
    }

    static void year99InTheMidstOfAText(Due due) {
        PoorTurns x = Make.inYear(40);
        canBe(due, x, ".".repeat(59));
        due.is("parish(3)", x.parish(3), 99);
        judged(due, x, ".".repeat(60), 59, 5);
    }

    static void inYear99AllElseCanBe(Due due) {
        PoorTurns x = Make.inYear(99);
        due.is("who is in", x.told(1), 4);
        canBe(due, x, "A^A_B>C1xAH");
        due.is("done", x.done(), 4);
        due.is("told(4)", x.told(4), 99);
    }

    public static void main(String[] args) {
        Cases.run(ActEdgesTest.class);
    }
}
