/** Objects made ready for a test. */
final class Make {
    static final int UNKNOWN = -1, OUTSIDE = -2, STATE = -3, FULL = -4, NO = -5, NONE = -6;
    static final long GONE = -1000000000000000000L;
    static final int LOWEST = Integer.MIN_VALUE, HIGHEST = Integer.MAX_VALUE;

    static PoorTurns write(PoorTurns x, String text) {
        for (char sign : text.toCharArray()) {
            x.say(sign);
        }
        return x;
    }

    static PoorTurns with(String text) {
        return write(new PoorTurns(), text);
    }

    /** What stood on the pad goes. */
    static PoorTurns rewrite(PoorTurns x, String text) {
        x.wipe();
        return write(x, text);
    }

    /** As many years are done; nothing else is. */
    static PoorTurns inYear(int year) {
        PoorTurns x = new PoorTurns();
        for (int passed = 0; passed < year; passed++) {
            if (x.say('.') == 60) {
                x.done();
            }
        }
        x.done();
        return x;
    }

    /** All are kin but those beside one another in the row. */
    static PoorTurns kinButNeighbours(String row) {
        PoorTurns x = new PoorTurns();
        for (int one = 0; one < 8; one++) {
            for (int other = one + 1; other < 8; other++) {
                if (!row.contains("" + one + other) && !row.contains("" + other + one)) {
                    x.kin(one, other, true);
                }
            }
        }
        return x;
    }

    private Make() {
    }
}
