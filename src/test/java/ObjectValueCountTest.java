/** Promises 9, 10 and 11: object, value and count. */
public final class ObjectValueCountTest {
    private static final Checks CHECKS = new Checks();
    private static final int REFUSED = GraphReader.REFUSED;
    private static final long NONE = GraphReader.NONE;
    private static final int NULL = GraphReader.NULL;

    public static void main(String[] args) {
        everySort();
        objectsThatAreNotThere();
        whatThatIsNotThere();
        valuesOfEverySort();
        counts();
        CHECKS.end();
    }

    /** The heap: 0 REFS, 1 the text of a signature, 2 an INSTANCE, 3 INTS, 4 a text, 5 a CONSTANT. */
    private static GraphReader withEverySort() {
        GraphReader x = Readers.fresh();
        x.define(1, 2, -1, 0);
        x.field(1, 3, 3);
        x.field(1, 0, 7);
        x.field(1, 1, 7);
        x.define(2, 3, -1, 0);
        x.constant(2, 5, false);
        String descriptor = Hex.desc("B", 0, 3, Hex.NULL, Hex.field('L', "a", Hex.text("xyz")));
        String instance = "73" + descriptor + Hex.ref(1) + Hex.block("0000002A") + "78";
        Hex.open(x, Hex.refs(instance, Hex.ints(-5, 6), "7E" + Hex.desc("C", 0, 0x12, Hex.NULL) + Hex.text("f"),
                Hex.NULL), "7B");
        CHECKS.same("read", x.read(), 0);
        return x;
    }

    private static void everySort() {
        GraphReader x = withEverySort();
        int[][] wants = {
            {3, REFUSED, 4, 0}, {1, REFUSED, 3, 0}, {0, 1, 3, 42}, {2, REFUSED, 2, 0}, {1, REFUSED, 1, 0}, {4, 2, 5, 0}};
        for (int object = 0; object < wants.length; object++) {
            for (int what = 0; what < 4; what++) {
                CHECKS.same("object(" + object + ", " + what + ")", x.object(object, what), wants[object][what]);
            }
        }
    }

    private static void objectsThatAreNotThere() {
        GraphReader x = withEverySort();
        for (int object : new int[] {-1, -2, 6, 700, Integer.MIN_VALUE, Integer.MAX_VALUE}) {
            for (int what = -1; what <= 4; what++) {
                CHECKS.same("object(" + object + ", " + what + ")", x.object(object, what), REFUSED);
            }
            CHECKS.same("value(" + object + ", 0)", x.value(object, 0), NONE);
        }
    }

    private static void whatThatIsNotThere() {
        GraphReader x = withEverySort();
        for (int what : new int[] {Integer.MIN_VALUE, -1, 4, 5, Integer.MAX_VALUE}) {
            CHECKS.same("object(0, " + what + ")", x.object(0, what), REFUSED);
        }
        for (int what : new int[] {Integer.MIN_VALUE, -1, 5, 6, Integer.MAX_VALUE}) {
            CHECKS.same("count(" + what + ")", x.count(what), REFUSED);
        }
    }

    private static void valuesOfEverySort() {
        GraphReader x = withEverySort();
        long[][] wants = {{2, 3, 5, NULL}, {'x', 'y', 'z'}, {0, 0, NULL}, {-5, 6}, {'f'}, {}};
        for (int object = 0; object < wants.length; object++) {
            for (int k = 0; k < wants[object].length; k++) {
                CHECKS.same("value(" + object + ", " + k + ")", x.value(object, k), wants[object][k]);
            }
            for (int k : new int[] {Integer.MIN_VALUE, -1, wants[object].length, 25, Integer.MAX_VALUE}) {
                CHECKS.same("value(" + object + ", " + k + ")", x.value(object, k), NONE);
            }
        }
    }

    private static void counts() {
        GraphReader x = withEverySort();
        int place = x.count(4) - 1;
        int[] before = {place, 10, 6, 0, place + 1};
        int[] after = {place, 10, 6, GraphReader.ABORTED, place + 1};
        for (int what = 0; what < 5; what++) {
            CHECKS.same("count(" + what + ")", x.count(what), before[what]);
        }
        x.read();
        for (int what = 0; what < 5; what++) {
            CHECKS.same("count(" + what + ") behind a fault", x.count(what), after[what]);
        }
        x.put(0, 3);
        CHECKS.same("BYTES", x.count(4), place + 4);
    }
}
