/** Promises 25 to 27 at their bounds: image, restore, told. */
public final class ImageEdgesTest {
    /** Nothing in it is as at first. */
    private static PoorTurns lived() {
        PoorTurns x = Make.with("B^A>B5xAH..");
        x.done();
        x.house(3, 999, 1);
        x.gave(6, 7, 12);
        x.kin(0, 5, true);
        x.count(15, 2);
        return x;
    }

    private static void change(PoorTurns x) {
        for (int house = 0; house < 8; house++) {
            x.house(house, 100 + house, house % 2);
            x.gave(house, (house + 1) % 8, 200 + house);
            x.kin(house, (house + 1) % 8, true);
        }
        x.kin(0, 5, false);
        x.map(76543210, 6);
        x.forget();
        x.count(1, 0);
        x.count(2, 0);
        x.count(4, 0);
        Make.write(x, "...").done();
    }

    // ---- promise 25: image

    static void imagesAre0And1(Due due) {
        PoorTurns x = new PoorTurns();
        due.is("-1", x.image(-1), Make.OUTSIDE);
        due.is("0", x.image(0), 1);
        due.is("1", x.image(1), 1);
        due.is("2", x.image(2), Make.OUTSIDE);
    }

    static void anImageMayBeKeptAnew(Due due) {
        PoorTurns x = new PoorTurns();
        x.house(0, 1, 0);
        due.is("image", x.image(0), 1);
        x.house(0, 2, 0);
        due.is("image anew", x.image(0), 1);
        x.house(0, 3, 0);
        x.restore(0);
        due.is("the newer one", x.told(10), 2);
    }

    static void anImageChangesNothing(Due due) {
        PoorTurns x = lived();
        x.image(0);
        x.image(1);
        PoorTurns twin = lived();
        for (int what = 0; what < 180; what++) {
            due.is("told " + what, x.told(what), twin.told(what));
        }
    }

    static void anImageStaysAsItWas(Due due) {
        PoorTurns x = lived();
        x.image(0);
        change(x);
        x.restore(0);
        change(x);
        due.is("restore", x.restore(0), 1);
        due.is("wealth", x.told(13), 999);
        due.is("kin", x.told(20), 32);
        due.is("map", x.told(2), 71234560);
        due.is("sights", x.told(5), 1);
    }

    static void anImageOfAFaultIsKept(Due due) {
        PoorTurns x = Make.with("A!");
        due.is("image", x.image(0), 1);
        due.is("restore", x.restore(0), 1);
    }

    // ---- promise 26: restore

    static void restoreIsOf0And1(Due due) {
        PoorTurns x = new PoorTurns();
        due.is("-1, none kept", x.restore(-1), Make.OUTSIDE);
        due.is("2, none kept", x.restore(2), Make.OUTSIDE);
        x.image(0);
        x.image(1);
        due.is("-1", x.restore(-1), Make.OUTSIDE);
        due.is("0", x.restore(0), 1);
        due.is("1", x.restore(1), 1);
        due.is("2", x.restore(2), Make.OUTSIDE);
    }

    static void restoreOfOneThatWasNotKept(Due due) {
        for (int k = 0; k <= 1; k++) {
            PoorTurns x = new PoorTurns();
            due.is("none is kept", x.restore(k), Make.STATE);
            x.image(1 - k);
            due.is("the other one is", x.restore(k), Make.STATE);
            x.restore(1 - k);
            due.is("and was put back", x.restore(k), Make.STATE);
            x.image(k);
            due.is("now it is", x.restore(k), 1);
        }
    }

    static void refusedToKeepIsNotKept(Due due) {
        PoorTurns x = new PoorTurns();
        x.image(2);
        x.image(-1);
        due.is("0", x.restore(0), Make.STATE);
        due.is("1", x.restore(1), Make.STATE);
    }

    static void restorePutsAllBackButThePad(Due due) {
        for (int k = 0; k <= 1; k++) {
            PoorTurns x = lived();
            x.image(k);
            change(x);
            due.is("restore", x.restore(k), 1);
            PoorTurns twin = lived();
            for (int what = 0; what < 180; what++) {
                due.is("told " + what, x.told(what), twin.told(what));
            }
            due.is("what fits", x.ever(-1), 96);
            due.is("the first that fits", x.ever(0), 3);
        }
    }

    static void restoreOfAnObjectAsAtFirst(Due due) {
        PoorTurns x = new PoorTurns();
        x.image(0);
        change(x);
        x.restore(0);
        PoorTurns twin = new PoorTurns();
        for (int what = 0; what < 180; what++) {
            due.is("told " + what, x.told(what), twin.told(what));
        }
    }

    static void thePadIsNotKept(Due due) {
        PoorTurns x = Make.with("A^.");
        x.image(0);
        x.wipe();
        x.restore(0);
        due.is("signs", x.told(0), 0);
        due.is("no acts", x.done(), 0);
    }

    static void thePadStaysAsItIs(Due due) {
        PoorTurns x = new PoorTurns();
        x.image(0);
        Make.write(x, "A^B>");
        x.restore(0);
        due.is("signs", x.told(0), 4);
        due.is("fault", x.fault(), 4);
        Make.write(x, "A9");
        due.is("it is read on", x.fault(), Make.NONE);
        due.is("done", x.done(), 2);
        Make.write(x, "!");
        x.restore(0);
        due.is("a fault stays", x.fault(), 0);
    }

    static void whatIsOnThePadIsJudgedByWhatWasPutBack(Due due) {
        PoorTurns x = new PoorTurns();
        x.image(0);
        x.house(0, 50, 1);
        Make.write(x, "A^");
        due.is("it is in", x.judge(0), 0);
        x.restore(0);
        due.is("it is not", x.judge(0), Make.NONE);
    }

    static void aFullPadStaysFull(Due due) {
        PoorTurns x = new PoorTurns();
        x.image(1);
        Make.write(x, ".".repeat(60));
        x.restore(1);
        due.is("one more", x.say('.'), Make.FULL);
        due.is("sixty acts", x.done(), 60);
    }

    static void theTwoImagesStandEachByItself(Due due) {
        PoorTurns x = new PoorTurns();
        x.house(0, 1, 0);
        x.image(0);
        x.house(0, 2, 0);
        x.image(1);
        x.restore(0);
        due.is("0", x.told(10), 1);
        x.restore(1);
        due.is("1", x.told(10), 2);
        x.restore(0);
        due.is("0 again", x.told(10), 1);
    }

    static void fromYear99BackToAnEarlierOne(Due due) {
        PoorTurns x = new PoorTurns();
        x.image(0);
        Make.write(x, ".".repeat(60)).done();
        Make.write(x, ".".repeat(39)).done();
        x.say('.');
        due.is("year 99", x.judge(1), 5);
        x.restore(0);
        due.is("year 0", x.told(4), 0);
        due.is("it can be", x.done(), 1);
    }

    static void fullSightsAreFullNoMore(Due due) {
        PoorTurns x = new PoorTurns();
        x.image(0);
        for (int i = 0; i < 8; i++) {
            x.count(255, 8);
        }
        x.image(1);
        x.restore(0);
        due.is("none", x.told(5), 0);
        due.is("there is room", x.count(0, 0), 1);
        x.restore(1);
        due.is("full again", x.count(0, 0), Make.FULL);
        due.is("what fits", x.ever(0), 255);
    }

    // ---- promise 27: told

    static void toldOf0To5(Due due) {
        PoorTurns x = lived();
        x.say('A');
        // A and H have changed places: H went in, then B; D was put in.
        int[] told = {1, 10, 71234560, 2, 2, 1};
        for (int what = 0; what <= 5; what++) {
            due.is("told " + what, x.told(what), told[what]);
        }
        due.is("told -1", x.told(-1), Make.OUTSIDE);
        for (int what = 6; what <= 9; what++) {
            due.is("told " + what, x.told(what), Make.OUTSIDE);
        }
    }

    static void toldOfWealthIs10To17(Due due) {
        PoorTurns x = new PoorTurns();
        for (int house = 0; house < 8; house++) {
            x.house(house, 900 + house, 0);
        }
        for (int house = 0; house < 8; house++) {
            due.is("told " + (10 + house), x.told(10 + house), 900 + house);
        }
        due.is("told 18", x.told(18), Make.OUTSIDE);
        due.is("told 19", x.told(19), Make.OUTSIDE);
    }

    static void toldOfKinIs20To27(Due due) {
        PoorTurns x = Make.kinButNeighbours("01234567");
        int[] kin = {252, 248, 241, 227, 199, 143, 31, 63};
        for (int house = 0; house < 8; house++) {
            due.is("told " + (20 + house), x.told(20 + house), kin[house]);
        }
        for (int what = 28; what <= 99; what++) {
            due.is("told " + what, x.told(what), Make.OUTSIDE);
        }
    }

    static void toldOfGiftsIs100To177(Due due) {
        PoorTurns x = new PoorTurns();
        for (int pair = 0; pair < 64; pair++) {
            x.gave(pair / 8, pair % 8, 900 + pair);
        }
        for (int what = 100; what < 180; what++) {
            int one = (what - 100) / 10;
            int other = what % 10;
            int given = one == other ? 0 : 900 + 8 * one + other;
            due.is("told " + what, x.told(what), other < 8 ? given : Make.OUTSIDE);
        }
    }

    static void toldOfOneToItselfIs0(Due due) {
        PoorTurns x = new PoorTurns();
        for (int house = 0; house < 8; house++) {
            x.gave(house, house, 5);
            due.is("told", x.told(100 + 11 * house), 0);
        }
    }

    static void toldBeyondAll(Due due) {
        PoorTurns x = new PoorTurns();
        for (int what : new int[] {-100, -90, -10, -6, -2, 180, 187, 190, 200, 210, 1000, Make.LOWEST, Make.HIGHEST}) {
            due.is("told " + what, x.told(what), Make.OUTSIDE);
        }
    }

    static void toldIsAsItIsNotAsOnThePad(Due due) {
        PoorTurns x = Make.with("B^A>B9xAH.");
        int[][] told = {{0, 10}, {1, 0}, {2, 1234567}, {3, 0}, {4, 0}, {10, 50}, {101, 0}};
        for (int[] t : told) {
            due.is("told " + t[0], x.told(t[0]), t[1]);
        }
    }

    public static void main(String[] args) {
        Cases.run(ImageEdgesTest.class);
    }
}
