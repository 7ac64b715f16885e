/** Promises 6 to 8 and their terms, at their bounds: signs, the pad, the fault. */
public final class PadEdgesTest {
    private static final String HOUSES = "ABCDEFGH";

    // ---- promise 6: say

    static void codesAre33To126(Due due) {
        PoorTurns x = new PoorTurns();
        due.is("32", x.say(32), Make.OUTSIDE);
        due.is("33", x.say(33), 1);
        due.is("126", x.say(126), 2);
        due.is("127", x.say(127), Make.OUTSIDE);
    }

    static void everyCodeBetweenMayBeSaid(Due due) {
        for (int sign = 33; sign <= 126; sign++) {
            due.is("say " + sign, new PoorTurns().say(sign), 1);
        }
    }

    static void codesAreNotCutToFit(Due due) {
        PoorTurns x = new PoorTurns();
        int[] noSigns = {'A' + 128, 'A' + 256, 'A' + 65536, 'A' - 256, -'A', 0, -1, Make.LOWEST, Make.HIGHEST};
        for (int sign : noSigns) {
            due.is("say " + sign, x.say(sign), Make.OUTSIDE);
        }
        due.is("told(0)", x.told(0), 0);
    }

    static void sixtySignsFitAndNoneMore(Due due) {
        PoorTurns x = new PoorTurns();
        for (int i = 1; i <= 60; i++) {
            due.is("sign " + i, x.say('.'), i);
        }
        due.is("one more", x.say('.'), Make.FULL);
        due.is("and again", x.say('.'), Make.FULL);
        due.is("told(0)", x.told(0), 60);
        due.is("sixty years", x.parish(3), 60);
    }

    static void aFullPadRefusesWrongSignsAsOutside(Due due) {
        PoorTurns x = Make.with(".".repeat(60));
        due.is("32", x.say(32), Make.OUTSIDE);
        due.is("127", x.say(127), Make.OUTSIDE);
        due.is("33", x.say(33), Make.FULL);
        due.is("126", x.say(126), Make.FULL);
    }

    static void signsBehindAFaultFillThePadToo(Due due) {
        PoorTurns x = Make.with("!".repeat(59));
        due.is("the last one", x.say('!'), 60);
        due.is("one more", x.say('!'), Make.FULL);
    }

    static void signsThatCanNotStandAreSaidAllTheSame(Due due) {
        PoorTurns x = new PoorTurns();
        due.is("no act begins so", x.say('^'), 1);
        due.is("nor goes on so", x.say('~'), 2);
        due.is("told(0)", x.told(0), 2);
    }

    // ---- promise 7: wipe

    static void wipeOfAnEmptyPad(Due due) {
        PoorTurns x = new PoorTurns();
        due.is("wipe", x.wipe(), 0);
        due.is("fault", x.fault(), Make.NONE);
        due.is("say", x.say('.'), 1);
    }

    static void wipeOfAFullPad(Due due) {
        PoorTurns x = Make.with(".".repeat(60));
        due.is("wipe", x.wipe(), 60);
        due.is("told(0)", x.told(0), 0);
        due.is("there is room again", x.say('.'), 1);
        due.is("one act alone", x.parish(3), 1);
    }

    static void wipeOfAFault(Due due) {
        PoorTurns x = Make.with("A!");
        due.is("fault", x.fault(), 1);
        due.is("wipe", x.wipe(), 2);
        due.is("no fault", x.fault(), Make.NONE);
        due.is("no acts", x.judge(0), Make.NONE);
    }

    static void wipeInTheMidstOfAnAct(Due due) {
        for (String start : new String[] {"A", "A>", "A>B", "x", "xA"}) {
            PoorTurns x = Make.with(start);
            due.is("wipe " + start, x.wipe(), start.length());
            due.is("no fault behind " + start, x.fault(), Make.NONE);
            Make.write(x, "H^");
            due.is("read from the start behind " + start, x.fault(), Make.NONE);
            due.is("one act behind " + start, x.done(), 1);
        }
    }

    static void wipeLeavesAllElse(Due due) {
        PoorTurns x = Make.with("A^.");
        x.wipe();
        due.is("told(1)", x.told(1), 0);
        due.is("told(4)", x.told(4), 0);
    }

    // ---- promise 8: fault

    static void anEmptyPadHasNoFault(Due due) {
        due.is("fault", new PoorTurns().fault(), Make.NONE);
        due.is("no acts are done", new PoorTurns().done(), 0);
    }

    /** What may stand behind the start; any other sign is the fault. */
    private static void follow(Due due, String start, String mayStand) {
        for (char sign = 33; sign <= 126; sign++) {
            PoorTurns x = Make.with(start + sign);
            boolean stands = x.fault() != start.length();
            due.is("fault of " + start + sign, stands ? 1 : 0, mayStand.indexOf(sign) >= 0 ? 1 : 0);
        }
    }

    static void anActBeginsWithAHouseXOrAYear(Due due) {
        follow(due, "", HOUSES + "x.");
        follow(due, ".", HOUSES + "x.");
        follow(due, "A^", HOUSES + "x.");
        follow(due, "H_", HOUSES + "x.");
        follow(due, "A>B1", HOUSES + "x.");
        follow(due, "xAB", HOUSES + "x.");
    }

    static void behindAHouseComesWhatItDoes(Due due) {
        follow(due, "A", "^_>");
        follow(due, "H", "^_>");
    }

    static void aGiftIsToAHouse(Due due) {
        follow(due, "A>", HOUSES);
    }

    static void aGiftIs1To9(Due due) {
        follow(due, "A>B", "123456789");
        follow(due, "H>H", "123456789");
    }

    static void twoHousesChangePlaces(Due due) {
        follow(due, "x", HOUSES);
        follow(due, "xA", HOUSES);
        follow(due, "xH", HOUSES);
    }

    static void ifMoreMustComeTheFaultIsTheNumberOfSigns(Due due) {
        for (String start : new String[] {"A", "H", "A>", "A>B", "x", "xA"}) {
            due.is(start, Make.with(start).fault(), start.length());
            due.is("." + start, Make.with("." + start).fault(), start.length() + 1);
            due.is("A>B9" + start, Make.with("A>B9" + start).fault(), start.length() + 4);
        }
    }

    static void aWholeTextHasNoFault(Due due) {
        for (String text : new String[] {".", "A^", "H_", "A>H1", "H>A9", "xAH", "xHA", "..", "A^A_A>B5xCD."}) {
            due.is(text, Make.with(text).fault(), Make.NONE);
        }
    }

    static void actsThatCanNotBeAreNoFault(Due due) {
        for (String text : new String[] {"A_", "A^A^", "A>A1", "xAA", "A>B9", ".".repeat(60)}) {
            due.is(text, Make.with(text).fault(), Make.NONE);
        }
        due.is("year 99", Make.write(Make.inYear(99), ".").fault(), Make.NONE);
    }

    static void theFirstFaultStays(Due due) {
        PoorTurns x = Make.with("A^");
        due.is("none", x.fault(), Make.NONE);
        x.say('^');
        due.is("the third sign", x.fault(), 2);
        Make.write(x, "A^.!");
        due.is("whatever comes", x.fault(), 2);
        due.is("the first sign", Make.with("^" + ".".repeat(59)).fault(), 0);
    }

    static void aSignThatIsSaidChangesTheFault(Due due) {
        PoorTurns x = new PoorTurns();
        int[] faults = {1, 2, 3, Make.NONE, Make.NONE, 6, 7, Make.NONE, 8, 8};
        String text = "A>B1.xAB1.";
        for (int i = 0; i < text.length(); i++) {
            x.say(text.charAt(i));
            due.is("behind " + text.substring(0, i + 1), x.fault(), faults[i]);
        }
    }

    static void aSignThatIsRefusedDoesNot(Due due) {
        PoorTurns x = Make.with("A");
        x.say(32);
        due.is("outside", x.fault(), 1);
        x.say('^');
        due.is("goes on", x.fault(), Make.NONE);
        PoorTurns full = Make.with(".".repeat(60));
        full.say('!');
        due.is("full", full.fault(), Make.NONE);
    }

    static void aFaultAtTheLastPlaceOfThePad(Due due) {
        due.is("a wrong sign", Make.with(".".repeat(59) + "!").fault(), 59);
        due.is("a right one", Make.with(".".repeat(59) + ".").fault(), Make.NONE);
        due.is("an act that ends", Make.with(".".repeat(56) + "A>B1").fault(), Make.NONE);
    }

    static void aFullPadInTheMidstOfAnAct(Due due) {
        for (String start : new String[] {"A", "A>", "A>B", "x", "xA"}) {
            PoorTurns x = Make.with(".".repeat(60 - start.length()) + start);
            due.is("fault of " + start, x.fault(), 60);
            due.is("no more", x.say('^'), Make.FULL);
            due.is("fault of " + start, x.fault(), 60);
        }
    }

    static void aFullPadOfGifts(Due due) {
        PoorTurns x = Make.with("A>B1".repeat(15));
        due.is("told(0)", x.told(0), 60);
        due.is("fault", x.fault(), Make.NONE);
    }

    public static void main(String[] args) {
        Cases.run(PadEdgesTest.class);
    }
}
