/** Collects the answers that are not the ones that are due. */
final class Checks {
    private int wrong;
    private int asked;

    void same(String what, long got, long want) {
        asked++;
        if (got != want) {
            wrong++;
            System.out.println(what + " answered " + got + ", due is " + want);
        }
    }

    /** Reads once from the bytes behind a header: the fault is due, it lasts, and nothing has changed. */
    void fault(String what, int want, GraphReader x, String... hex) {
        Hex.open(x, hex);
        same(what, x.read(), want);
        same(what + ", what lasts", x.count(3), want);
        same(what + ", again", x.read(), want);
        same(what + ", PLACE", x.count(0), 4);
        same(what + ", HANDLES", x.count(1), 0);
        same(what + ", HEAP", x.count(2), 0);
    }

    /** Reads once from the bytes behind a header: the answer is due and all bytes are used up. */
    void reads(String what, int want, GraphReader x, String... hex) {
        Hex.open(x, hex);
        same(what, x.read(), want);
        same(what + ", what lasts", x.count(3), 0);
        same(what + ", PLACE", x.count(0), x.count(4));
    }

    void end() {
        System.out.println(asked + " answers, " + wrong + " not as due");
        if (wrong != 0) {
            System.exit(1);
        }
    }
}
