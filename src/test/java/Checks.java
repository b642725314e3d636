/** Collects the answers that are not the ones that are due. */
final class Checks {
    private String sentence = "";
    private int sentences;
    private int wrong;
    private int asked;

    /** What is asked from here on tests this sentence of the document. */
    void by(String sentence) {
        this.sentence = sentence;
        sentences++;
    }

    void same(String what, long got, long want) {
        asked++;
        if (got != want) {
            wrong++;
            System.out.println(what + " answered " + got + ", due is " + want + " by: " + sentence);
        }
    }

    /** Reads once from the bytes behind a header: the fault is due, it lasts, and nothing has changed. */
    void fault(String what, int want, GraphReader x, String... hex) {
        Hex.open(x, hex);
        same(what, x.read(), want);
        same(what + ", what lasts", x.count(3), want);
        same(what + ", again", x.read(), want);
        same(what + ", PLACE", x.count(0), 4);
        same(what + ", HANDLES", x.count(1), 0);
        same(what + ", HEAP", x.count(2), 0);
    }

    /** Reads once from the bytes behind a header: the answer is due and all bytes are used up. */
    void reads(String what, int want, GraphReader x, String... hex) {
        Hex.open(x, hex);
        same(what, x.read(), want);
        same(what + ", what lasts", x.count(3), 0);
        same(what + ", PLACE", x.count(0), x.count(4));
    }

    /** Reads as often as there are answers. */
    void readsInTurn(GraphReader x, int... answers) {
        for (int k = 0; k < answers.length; k++) {
            same("read " + k, x.read(), answers[k]);
        }
    }

    /** PLACE, HANDLES, HEAP, the fault that lasts, and BYTES. */
    void counts(String what, GraphReader x, int... wants) {
        for (int k = 0; k < wants.length; k++) {
            same(what + ", count(" + k + ")", x.count(k), wants[k]);
        }
    }

    /** All slots, signs or places of an object, and that there are no others. */
    void values(String what, GraphReader x, int object, long... wants) {
        for (int k = 0; k < wants.length; k++) {
            same(what + ", value " + k, x.value(object, k), wants[k]);
        }
        same(what + ", a value behind the last", x.value(object, wants.length), GraphReader.NONE);
    }

    void end() {
        System.out.println(sentences + " sentences, " + asked + " answers, " + wrong + " not as due");
        if (wrong != 0) {
            System.exit(1);
        }
    }
}
