/** Promises 15 to 17 at their bounds: even, orders, ring. */
public final class NowEdgesTest {
    private static PoorTurns given(int[][] gifts) {
        PoorTurns x = new PoorTurns();
        for (int[] gift : gifts) {
            x.gave(gift[0], gift[1], gift[2]);
        }
        return x;
    }

    private static void even(Due due, PoorTurns x, int payments, int groups) {
        due.is("payments", x.even(0), payments);
        due.is("groups", x.even(1), groups);
    }

    private static void orders(Due due, PoorTurns x, int howMany, int least) {
        due.is("how many", x.orders(0), howMany);
        due.is("the least", x.orders(1), least);
    }

    // ---- promise 15: even

    static void evenWhatIs0Or1(Due due) {
        due.is("-1", new PoorTurns().even(-1), Make.OUTSIDE);
        due.is("2", new PoorTurns().even(2), Make.OUTSIDE);
    }

    static void evenIfNothingWasGiven(Due due) {
        even(due, new PoorTurns(), 0, 0);
    }

    static void evenIfAllWasGivenBack(Due due) {
        even(due, given(new int[][] {{0, 1, 999}, {1, 0, 999}}), 0, 0);
        even(due, given(new int[][] {{0, 1, 5}, {1, 2, 5}, {2, 0, 5}}), 0, 0);
    }

    static void evenIfEachGaveEachTheMost(Due due) {
        PoorTurns x = new PoorTurns();
        for (int pair = 0; pair < 64; pair++) {
            x.gave(pair / 8, pair % 8, 999);
        }
        even(due, x, 0, 0);
    }

    static void evenByOnePayment(Due due) {
        even(due, given(new int[][] {{0, 7, 1}}), 1, 1);
        even(due, given(new int[][] {{7, 0, 999}}), 1, 1);
    }

    static void evenByOnePaymentThoughManyGave(Due due) {
        even(due, given(new int[][] {{0, 1, 5}, {1, 2, 5}, {2, 3, 5}, {3, 7, 5}}), 1, 1);
    }

    static void evenByFourPaymentsInFourGroups(Due due) {
        even(due, given(new int[][] {{0, 1, 1}, {2, 3, 2}, {4, 5, 4}, {6, 7, 8}}), 4, 4);
    }

    static void evenInTwosThatDidNotGiveEachOther(Due due) {
        // 0 and 1 are due 7, 2 and 3 owe 7, though 0 gave 2 and 3 alike.
        even(due, given(new int[][] {{0, 2, 4}, {0, 3, 3}, {1, 2, 3}, {1, 3, 4}}), 2, 2);
    }

    static void evenBySevenPaymentsInOneGroup(Due due) {
        even(due, given(new int[][] {{0, 1, 1}, {0, 2, 2}, {0, 3, 4}, {0, 4, 8}, {0, 5, 16}, {0, 6, 32},
            {0, 7, 64}}), 7, 1);
    }

    static void evenWithTheMostDue(Due due) {
        PoorTurns x = new PoorTurns();
        for (int other = 1; other < 8; other++) {
            x.gave(0, other, 999);
        }
        even(due, x, 7, 1);
    }

    static void evenLeavesOutWhoIsEven(Due due) {
        // 4 gave and was given 6: it is in no group of its own.
        even(due, given(new int[][] {{0, 1, 1}, {2, 4, 6}, {4, 3, 6}}), 2, 2);
    }

    static void evenByGroupsThatTheFirstChoiceMisses(Due due) {
        // Due: 0: 5, 1: 3, 2: 2, 3: -5, 4: -5. With 3 and 0, and 1, 2 and 4, there are two groups.
        even(due, given(new int[][] {{0, 3, 2}, {0, 4, 3}, {1, 3, 3}, {2, 4, 2}}), 3, 2);
    }

    static void evenIsAsThingsAreWhateverIsOnThePad(Due due) {
        PoorTurns x = Make.with("B^A>B9");
        even(due, x, 0, 0);
        x.say('!');
        even(due, x, 0, 0);
    }

    static void evenIsAskedAnew(Due due) {
        PoorTurns x = given(new int[][] {{0, 1, 1}});
        even(due, x, 1, 1);
        x.gave(0, 1, 0);
        even(due, x, 0, 0);
    }

    // ---- promise 16: orders

    static void ordersWhatIs0Or1(Due due) {
        due.is("-1", new PoorTurns().orders(-1), Make.OUTSIDE);
        due.is("2", new PoorTurns().orders(2), Make.OUTSIDE);
    }

    static void ordersWithoutKin(Due due) {
        orders(due, new PoorTurns(), 40320, 1234567);
    }

    static void ordersIfAllAreKin(Due due) {
        orders(due, Make.kinButNeighbours(""), 0, Make.NONE);
    }

    static void ordersIfOneIsKinToAll(Due due) {
        PoorTurns x = new PoorTurns();
        for (int other = 0; other < 7; other++) {
            x.kin(7, other, true);
        }
        orders(due, x, 0, Make.NONE);
    }

    static void ordersThatAreButTwo(Due due) {
        orders(due, Make.kinButNeighbours("01234567"), 2, 1234567);
        orders(due, Make.kinButNeighbours("76543210"), 2, 1234567);
    }

    static void theLeastOrderMayBeginWithNoNought(Due due) {
        orders(due, Make.kinButNeighbours("30124567"), 2, 30124567);
        orders(due, Make.kinButNeighbours("72345610"), 2, 1654327);
    }

    static void theGreatestLeastOrder(Due due) {
        // One end of the row is 6 at best, the other one 7.
        orders(due, Make.kinButNeighbours("65432107"), 2, 65432107);
    }

    static void ordersOfOneTwoKin(Due due) {
        for (int other = 1; other < 8; other++) {
            PoorTurns x = new PoorTurns();
            x.kin(0, other, true);
            orders(due, x, 30240, other == 1 ? 2134567 : 1234567);
        }
    }

    static void ordersOfOneWithASingleNeighbour(Due due) {
        PoorTurns x = new PoorTurns();
        for (int other = 1; other < 7; other++) {
            x.kin(0, other, true);
        }
        orders(due, x, 1440, 7123456);
    }

    static void theEndsOfARowAreNotSideBySide(Due due) {
        PoorTurns x = new PoorTurns();
        x.kin(0, 7, true);
        due.is("the least has them at its ends", x.orders(1), 1234567);
    }

    static void ordersIsAskedAnew(Due due) {
        PoorTurns x = Make.kinButNeighbours("");
        orders(due, x, 0, Make.NONE);
        for (int house = 0; house < 7; house++) {
            x.kin(house, house + 1, false);
        }
        orders(due, x, 2, 1234567);
    }

    static void ordersDoNotHangOnTheMap(Due due) {
        PoorTurns x = new PoorTurns();
        x.map(76543210, 3);
        x.kin(0, 1, true);
        orders(due, x, 30240, 2134567);
    }

    // ---- promise 17: ring

    private static void goes(Due due, int n, int k, int... who) {
        PoorTurns x = new PoorTurns();
        for (int i = 0; i < n; i++) {
            due.is("ring " + n + " " + k + " " + i, x.ring(n, k, i), who[i]);
        }
    }

    static void ringOfOne(Due due) {
        goes(due, 1, 1, 0);
        goes(due, 1, 2, 0);
        goes(due, 1, 99, 0);
    }

    static void ringByOneGoesInOrder(Due due) {
        goes(due, 5, 1, 0, 1, 2, 3, 4);
        due.is("the first one of 999", new PoorTurns().ring(999, 1, 0), 0);
        due.is("the last one of 999", new PoorTurns().ring(999, 1, 998), 998);
    }

    static void ringByAsManyAsSit(Due due) {
        goes(due, 5, 5, 4, 0, 2, 3, 1);
        due.is("99 of 99", new PoorTurns().ring(99, 99, 0), 98);
    }

    static void ringRoundAndRound(Due due) {
        goes(due, 2, 99, 0, 1);
        goes(due, 3, 99, 2, 0, 1);
        goes(due, 5, 6, 0, 2, 1, 4, 3);
        due.is("one less than told", new PoorTurns().ring(98, 99, 0), 0);
        due.is("one more than told", new PoorTurns().ring(100, 99, 0), 98);
    }

    static void ringByTwo(Due due) {
        goes(due, 5, 2, 1, 3, 0, 4, 2);
        goes(due, 8, 2, 1, 3, 5, 7, 2, 6, 4, 0);
    }

    static void ringIsOf1To999(Due due) {
        PoorTurns x = new PoorTurns();
        due.is("0", x.ring(0, 1, 0), Make.OUTSIDE);
        due.is("-1", x.ring(-1, 1, 0), Make.OUTSIDE);
        due.is("1", x.ring(1, 1, 0), 0);
        due.is("999", x.ring(999, 3, 0), 2);
        due.is("1000", x.ring(1000, 3, 0), Make.OUTSIDE);
    }

    static void ringIsBy1To99(Due due) {
        PoorTurns x = new PoorTurns();
        due.is("0", x.ring(200, 0, 0), Make.OUTSIDE);
        due.is("-1", x.ring(200, -1, 0), Make.OUTSIDE);
        due.is("1", x.ring(200, 1, 0), 0);
        due.is("99", x.ring(200, 99, 0), 98);
        due.is("100", x.ring(200, 100, 0), Make.OUTSIDE);
    }

    static void ringIsAskedOf0ToOneLessThanSit(Due due) {
        PoorTurns x = new PoorTurns();
        due.is("-1", x.ring(5, 2, -1), Make.OUTSIDE);
        due.is("0", x.ring(5, 2, 0), 1);
        due.is("4", x.ring(5, 2, 4), 2);
        due.is("5", x.ring(5, 2, 5), Make.OUTSIDE);
        due.is("1 of 1", x.ring(1, 2, 1), Make.OUTSIDE);
        due.is("998 of 999", x.ring(999, 2, 998), 974);
        due.is("999 of 999", x.ring(999, 2, 999), Make.OUTSIDE);
    }

    static void inARingEachGoesOnce(Due due) {
        int[][] rings = {{99, 99}, {100, 99}, {400, 7}, {500, 2}};
        for (int[] ring : rings) {
            PoorTurns x = new PoorTurns();
            boolean[] gone = new boolean[ring[0]];
            int wentOnce = 0;
            for (int i = 0; i < ring[0]; i++) {
                int who = x.ring(ring[0], ring[1], i);
                wentOnce += who >= 0 && who < ring[0] && !gone[who] ? 1 : 0;
                gone[who] = true;
            }
            due.is("of " + ring[0], wentOnce, ring[0]);
        }
    }

    public static void main(String[] args) {
        Cases.run(NowEdgesTest.class);
    }
}
