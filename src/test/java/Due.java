/** Counts the answers that are not as due. */
final class Due {
    private final String where;
    private int wrong;
    private int asked;

    Due() {
        this("");
    }

    /** Where: what is put ahead of each call that is told. */
    Due(String where) {
        this.where = where;
    }

    void is(String call, long got, long want) {
        asked++;
        if (got != want) {
            wrong++;
            System.out.println(where + call + " answered " + got + ", due is " + want);
        }
    }

    void holds(String what, boolean so) {
        is(what, so ? 1 : 0, 1);
    }

    int asked() {
        return asked;
    }

    int wrong() {
        return wrong;
    }

    void end() {
        System.out.println(asked + " answers, " + wrong + " not as due");
        if (wrong != 0) {
            System.exit(1);
        }
    }
}
