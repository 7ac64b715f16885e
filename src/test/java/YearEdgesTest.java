/** Promises 9 to 14 at their bounds: judge, behind, parish, first, done, due. */
public final class YearEdgesTest {
    /** A text with a fault; one whose second act can not be; one that is both. */
    private static final String WITH_FAULT = "A^B";
    private static final String CAN_NOT_BE = "A^A^";
    private static final String BOTH = "A^A^B";

    // ---- promise 9: judge

    static void judgeOfAnEmptyPad(Due due) {
        PoorTurns x = new PoorTurns();
        due.is("the act", x.judge(0), Make.NONE);
        due.is("why", x.judge(1), Make.NONE);
        due.is("how much", x.judge(2), 0);
    }

    static void judgeWhatIs0To2(Due due) {
        for (String text : new String[] {"", WITH_FAULT, CAN_NOT_BE, BOTH}) {
            PoorTurns x = Make.with(text);
            due.is("-1 of " + text, x.judge(-1), Make.OUTSIDE);
            due.is("3 of " + text, x.judge(3), Make.OUTSIDE);
        }
    }

    static void judgeOfAFaultIsNo(Due due) {
        for (String text : new String[] {WITH_FAULT, BOTH, "!", "A^!", ".".repeat(59) + "x"}) {
            PoorTurns x = Make.with(text);
            for (int what = 0; what <= 2; what++) {
                due.is("judge " + what + " of " + text, x.judge(what), Make.NO);
            }
        }
    }

    static void judgeTellsHowMuchOnlyIfAllCanBe(Due due) {
        PoorTurns x = Make.with("A^B>A5B>A5A^");
        due.is("the act", x.judge(0), 3);
        due.is("why", x.judge(1), 1);
        due.is("how much", x.judge(2), Make.STATE);
    }

    static void judgeTellsTheFirstActOfMore(Due due) {
        PoorTurns x = Make.with("A^xBBA^A>A9");
        due.is("the act", x.judge(0), 1);
        due.is("why", x.judge(1), 2);
    }

    static void judgeTellsActsNotSigns(Due due) {
        due.is("behind a gift", Make.with("B^A>B1xABxAA").judge(0), 3);
        due.is("the first one", Make.with("A_").judge(0), 0);
    }

    static void judgeOfTheSixtiethAct(Due due) {
        PoorTurns x = Make.write(Make.inYear(40), ".".repeat(60));
        due.is("the act", x.judge(0), 59);
        due.is("why", x.judge(1), 5);
    }

    static void judgeAddsTheFiguresEvenAbove999(Due due) {
        PoorTurns x = new PoorTurns();
        x.house(1, 999, 1);
        x.house(0, 999, 0);
        x.gave(0, 1, 999);
        Make.write(x, "A>B9".repeat(15));
        due.is("how much", x.judge(2), 135);
        due.is("the giver", x.behind(0, 0), 864);
        due.is("the other one", x.behind(1, 0), 999);
    }

    static void judgeOfATextWithoutGifts(Due due) {
        due.is("how much", Make.with("A^xAB.").judge(2), 0);
    }

    static void judgeDoesNothing(Due due) {
        PoorTurns x = Make.with("B^A>B9.");
        due.is("how much", x.judge(2), 9);
        due.is("once more", x.judge(2), 9);
        due.is("wealth", x.told(10), 50);
        due.is("signs", x.told(0), 7);
    }

    // ---- promise 10: behind

    static void behindOfAnEmptyPadIsAsItIs(Due due) {
        PoorTurns x = new PoorTurns();
        x.house(7, 999, 1);
        x.map(76543210, 0);
        due.is("wealth", x.behind(7, 0), 999);
        due.is("in", x.behind(7, 1), 1);
        due.is("place", x.behind(7, 2), 0);
        due.is("place", x.behind(0, 2), 7);
        due.is("in", x.behind(0, 1), 0);
    }

    static void behindOfHouses0To7(Due due) {
        PoorTurns x = new PoorTurns();
        due.is("0", x.behind(0, 0), 50);
        due.is("7", x.behind(7, 0), 50);
        due.is("-1", x.behind(-1, 0), Make.UNKNOWN);
        due.is("8", x.behind(8, 0), Make.UNKNOWN);
    }

    static void behindWhatIs0To2(Due due) {
        for (String text : new String[] {"", WITH_FAULT, CAN_NOT_BE, BOTH}) {
            PoorTurns x = Make.with(text);
            due.is("-1 of " + text, x.behind(0, -1), Make.OUTSIDE);
            due.is("3 of " + text, x.behind(0, 3), Make.OUTSIDE);
        }
    }

    static void behindIsRefusedInOrder(Due due) {
        for (int what = 0; what <= 2; what++) {
            due.is("no", Make.with(WITH_FAULT).behind(0, what), Make.NO);
            due.is("no ahead of state", Make.with(BOTH).behind(0, what), Make.NO);
            due.is("state", Make.with(CAN_NOT_BE).behind(0, what), Make.STATE);
        }
        due.is("unknown ahead of all", Make.with(BOTH).behind(8, 3), Make.UNKNOWN);
        due.is("unknown ahead of no", Make.with(WITH_FAULT).behind(8, 0), Make.UNKNOWN);
        due.is("unknown ahead of state", Make.with(CAN_NOT_BE).behind(8, 0), Make.UNKNOWN);
    }

    static void behindStateIsOfAnyHouse(Due due) {
        PoorTurns x = Make.with(CAN_NOT_BE);
        for (int house = 0; house < 8; house++) {
            due.is("house " + house, x.behind(house, 0), Make.STATE);
        }
    }

    // ---- promise 11: parish

    static void parishOfAnEmptyPadIsAsItIs(Due due) {
        PoorTurns x = new PoorTurns();
        int[] atFirst = {0, 400, 0, 0, 0};
        for (int what = 0; what <= 4; what++) {
            due.is("parish " + what, x.parish(what), atFirst[what]);
        }
    }

    static void parishWhatIs0To4(Due due) {
        for (String text : new String[] {"", WITH_FAULT, CAN_NOT_BE, BOTH}) {
            PoorTurns x = Make.with(text);
            due.is("-1 of " + text, x.parish(-1), Make.OUTSIDE);
            due.is("5 of " + text, x.parish(5), Make.OUTSIDE);
        }
    }

    static void parishIsRefusedInOrder(Due due) {
        for (int what = 0; what <= 4; what++) {
            due.is("no", Make.with(WITH_FAULT).parish(what), Make.NO);
            due.is("no ahead of state", Make.with(BOTH).parish(what), Make.NO);
            due.is("state", Make.with(CAN_NOT_BE).parish(what), Make.STATE);
        }
    }

    static void parishOfAllIn(Due due) {
        due.is("in", Make.with("A^B^C^D^E^F^G^H^").parish(0), 255);
    }

    static void parishOfTheLeastAndTheMostWealth(Due due) {
        PoorTurns x = new PoorTurns();
        for (int house = 0; house < 8; house++) {
            x.house(house, 0, 0);
        }
        due.is("least", x.parish(1), 0);
        for (int house = 0; house < 8; house++) {
            x.house(house, 999, 0);
        }
        due.is("most", x.parish(1), 7992);
    }

    static void parishOfNext7AndYear99(Due due) {
        PoorTurns x = Make.inYear(99);
        due.is("next behind 99 years", x.parish(2), 3);
        due.is("year", x.parish(3), 99);
        x.map(1234567, 7);
        due.is("next", x.parish(2), 7);
    }

    static void ofAsLittleTheFirstOnTheMapHasLeast(Due due) {
        PoorTurns x = new PoorTurns();
        x.map(76543210, 0);
        due.is("all alike", x.parish(4), 7);
        x.house(0, 49, 0);
        due.is("the last one on the map", x.parish(4), 0);
        x.house(1, 49, 0);
        due.is("of two", x.parish(4), 1);
        x.house(7, 49, 0);
        due.is("of three", x.parish(4), 7);
        x.house(2, 48, 0);
        due.is("less is less", x.parish(4), 2);
    }

    static void whoHasLeastMayBeAtAnyPlace(Due due) {
        int[] row = {3, 0, 7, 1, 5, 2, 6, 4};
        for (int place = 0; place < 8; place++) {
            PoorTurns x = new PoorTurns();
            x.map(30715264, 0);
            x.house(row[place], 49, 0);
            due.is("alone at " + place, x.parish(4), row[place]);
            x.house(row[7], 49, 0);
            due.is("with the last one, at " + place, x.parish(4), row[place]);
        }
    }

    static void theMapThatCountsIsTheOneBehindTheText(Due due) {
        due.is("xAH", Make.with("xAH").parish(4), 7);
        due.is("xAHxAH", Make.with("xAHxAH").parish(4), 0);
    }

    static void whoIsInCanHaveLeast(Due due) {
        PoorTurns x = new PoorTurns();
        x.house(5, 0, 1);
        due.is("least", x.parish(4), 5);
    }

    // ---- promise 12: first

    static void firstOfAnEmptyPad(Due due) {
        PoorTurns x = new PoorTurns();
        x.house(0, 50, 1);
        due.is("act", x.first(0), Make.NONE);
        due.is("which", x.first(1), Make.NONE);
    }

    static void firstIsNoneIfNobodyWentIn(Due due) {
        PoorTurns x = new PoorTurns();
        x.house(0, 50, 1);
        Make.write(x, "B>A1xABA_");
        due.is("act", x.first(0), Make.NONE);
        due.is("which", x.first(1), Make.NONE);
    }

    static void firstWhatIs0Or1(Due due) {
        for (String text : new String[] {"", WITH_FAULT, CAN_NOT_BE, BOTH}) {
            PoorTurns x = Make.with(text);
            due.is("-1 of " + text, x.first(-1), Make.OUTSIDE);
            due.is("2 of " + text, x.first(2), Make.OUTSIDE);
        }
    }

    static void firstIsRefusedInOrder(Due due) {
        for (int what = 0; what <= 1; what++) {
            due.is("no", Make.with(WITH_FAULT).first(what), Make.NO);
            due.is("no ahead of state", Make.with(BOTH).first(what), Make.NO);
            due.is("state", Make.with(CAN_NOT_BE).first(what), Make.STATE);
        }
        due.is("state, though none went in", Make.with("xAA").first(0), Make.STATE);
    }

    static void firstByGoingIn(Due due) {
        PoorTurns x = Make.with("H^A^.");
        due.is("act", x.first(0), 0);
        due.is("which", x.first(1), 7);
        due.is("house 0", Make.with("A^").first(1), 0);
    }

    static void firstByAYear(Due due) {
        PoorTurns x = new PoorTurns();
        x.map(1234567, 7);
        Make.write(x, "xAB.A^");
        due.is("act", x.first(0), 1);
        due.is("which", x.first(1), 7);
    }

    static void firstByAYearIsTheOneAtNextOnTheMapOfThen(Due due) {
        due.is("which", Make.with("xAF.").first(1), 5);
        due.is("and no later change", Make.with("xAF.xFG.").first(1), 5);
    }

    static void firstByAYearEvenIfItWasIn(Due due) {
        PoorTurns x = new PoorTurns();
        x.house(0, 50, 1);
        x.say('.');
        due.is("act", x.first(0), 0);
        due.is("which", x.first(1), 0);
    }

    static void firstIsTheFirstOne(Due due) {
        PoorTurns x = Make.with("C^C_A^");
        due.is("act", x.first(0), 0);
        due.is("which, though it came out", x.first(1), 2);
    }

    static void firstAtTheEndOfAFullPad(Due due) {
        PoorTurns x = Make.with("xAB".repeat(19) + "xC");
        x.say('D');
        due.is("sixty signs", x.told(0), 60);
        due.is("nobody", x.first(0), Make.NONE);
        Make.rewrite(x, "xAB".repeat(19) + "H^.");
        due.is("act", x.first(0), 19);
        due.is("which", x.first(1), 7);
    }

    // ---- promise 13: done

    static void doneOfAnEmptyPad(Due due) {
        PoorTurns x = new PoorTurns();
        due.is("done", x.done(), 0);
        due.is("signs", x.told(0), 0);
        due.is("year", x.told(4), 0);
    }

    static void doneOfSixtyActs(Due due) {
        PoorTurns x = Make.with(".".repeat(60));
        due.is("done", x.done(), 60);
        due.is("signs", x.told(0), 0);
        due.is("year", x.told(4), 60);
        due.is("next", x.told(3), 4);
        due.is("in", x.told(1), 8);
        due.is("there is room again", x.say('.'), 1);
    }

    static void donePadIsEmptyAndNothingIsDoneTwice(Due due) {
        PoorTurns x = Make.with("A^");
        due.is("done", x.done(), 1);
        due.is("fault", x.fault(), Make.NONE);
        due.is("again", x.done(), 0);
        due.is("in", x.told(1), 1);
        due.is("no first one any more", x.first(0), Make.NONE);
    }

    static void doneIsRefusedInOrder(Due due) {
        due.is("no", Make.with(WITH_FAULT).done(), Make.NO);
        due.is("no ahead of state", Make.with(BOTH).done(), Make.NO);
        due.is("state", Make.with(CAN_NOT_BE).done(), Make.STATE);
    }

    static void doneNothingOfATextThatCanNotBe(Due due) {
        PoorTurns x = Make.with("A^B>A1xAB.xCC");
        due.is("done", x.done(), Make.STATE);
        due.is("signs", x.told(0), 13);
        due.is("in", x.told(1), 0);
        due.is("map", x.told(2), 1234567);
        due.is("next", x.told(3), 0);
        due.is("year", x.told(4), 0);
        due.is("wealth", x.told(11), 50);
        due.is("gave", x.told(110), 0);
    }

    static void doneLeavesKinSightsAndImages(Due due) {
        PoorTurns x = new PoorTurns();
        x.image(0);
        x.kin(0, 1, true);
        x.count(3, 1);
        Make.write(x, ".").done();
        due.is("kin", x.told(20), 2);
        due.is("sights", x.told(5), 1);
        due.is("image", x.restore(0), 1);
        due.is("year", x.told(4), 0);
    }

    // ---- promise 14: due

    static void dueAtFirstIs10000(Due due) {
        for (int house = 0; house < 8; house++) {
            due.is("due " + house, new PoorTurns().due(house), 10000);
        }
    }

    static void dueOfHouses0To7(Due due) {
        due.is("-1", new PoorTurns().due(-1), Make.UNKNOWN);
        due.is("8", new PoorTurns().due(8), Make.UNKNOWN);
    }

    static void theMostThatCanBeDue(Due due) {
        for (int house = 0; house < 8; house++) {
            PoorTurns x = new PoorTurns();
            for (int other = 0; other < 8; other++) {
                x.gave(house, other, 999);
            }
            due.is("due " + house, x.due(house), 16993);
            due.is("of another one", x.due((house + 1) % 8), 9001);
        }
    }

    static void theLeastThatCanBeDue(Due due) {
        for (int house = 0; house < 8; house++) {
            PoorTurns x = new PoorTurns();
            for (int other = 0; other < 8; other++) {
                x.gave(other, house, 999);
            }
            due.is("due " + house, x.due(house), 3007);
            due.is("of another one", x.due((house + 1) % 8), 10999);
        }
    }

    static void dueIsEvenIfAsMuchWasGivenBack(Due due) {
        PoorTurns x = new PoorTurns();
        x.gave(0, 7, 999);
        x.gave(7, 0, 999);
        due.is("0", x.due(0), 10000);
        due.is("7", x.due(7), 10000);
    }

    static void dueIsAsThingsAreWhateverIsOnThePad(Due due) {
        PoorTurns x = Make.with("B^A>B9");
        due.is("a text", x.due(0), 10000);
        x.say('!');
        due.is("a fault", x.due(0), 10000);
        due.is("one that can not be", Make.with("A_").due(0), 10000);
    }

    static void dueStopsWhereWhatWasGivenStops(Due due) {
        PoorTurns x = new PoorTurns();
        x.gave(0, 1, 995);
        Make.write(x, "B^A>B9").done();
        due.is("the giver", x.due(0), 10999);
        due.is("the other one", x.due(1), 9001);
    }

    public static void main(String[] args) {
        Cases.run(YearEdgesTest.class);
    }
}
