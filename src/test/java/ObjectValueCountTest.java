/** Promises 9, 10 and 11: object, value and count. */
public final class ObjectValueCountTest {
    private static final Checks CHECKS = new Checks();
    private static final int REFUSED = GraphReader.REFUSED;
    private static final int NULL = GraphReader.NULL;
    // The objects that withEverySort has read.
    private static final int REFS = 0;
    private static final int TEXT = 1;
    private static final int INSTANCE = 2;
    private static final int INTS = 3;
    private static final int NAME = 4;
    private static final int CONSTANT = 5;
    private static final int[] NO_OBJECTS = {Integer.MIN_VALUE, -2, -1, 6, 233, 234, 700, Integer.MAX_VALUE};

    public static void main(String[] args) {
        sorts();
        classes();
        sizes();
        extras();
        anotherWhatOfAnObject();
        objectsThatAreNotThere();
        heapIsEmpty();
        numbers();
        numbersOfObjects();
        codesOfSigns();
        behindTheLast();
        aConstantHasNoValue();
        valuesOfNoObject();
        counts();
        countsWhileAFaultLasts();
        anotherWhatOfCount();
        CHECKS.end();
    }

    private static GraphReader withEverySort() {
        GraphReader x = Readers.fresh();
        x.define(1, Readers.CUSTOM, -1, 0);
        x.field(1, 3, 3);
        x.field(1, 0, 7);
        x.field(1, 1, 7);
        x.define(2, Readers.CONSTANT, -1, 0);
        x.constant(2, 5, false);
        String descriptor = Hex.desc("B", 0, 3, Hex.NULL, Hex.field('L', "a", Hex.text("xyz")), Hex.field('J', "d"));
        String instance = "73" + descriptor + Hex.ref(1) + Hex.i8(Long.MIN_VALUE) + Hex.block("0000002A") + "78";
        Hex.open(x, Hex.refs(instance, Hex.ints(-5, 6), "7E" + Hex.constantDesc("C") + Hex.text("f"), Hex.NULL), "7B");
        CHECKS.same("read", x.read(), REFS);
        return x;
    }

    private static void whatOfAll(int what, int... wants) {
        GraphReader x = withEverySort();
        for (int object = 0; object < wants.length; object++) {
            CHECKS.same("object(" + object + ", " + what + ")", x.object(object, what), wants[object]);
        }
    }

    private static void sorts() {
        CHECKS.by("0 its sort: 0 INSTANCE, 1 TEXT, 2 INTS, 3 REFS, 4 CONSTANT");
        whatOfAll(0, 3, 1, 0, 2, 1, 4);
    }

    private static void classes() {
        CHECKS.by("1 its class, REFUSED if it has none");
        whatOfAll(1, REFUSED, REFUSED, 1, REFUSED, REFUSED, 2);
    }

    private static void sizes() {
        CHECKS.by("2 how many SLOTS, signs or places (a CONSTANT: its name 0 .. 25)");
        whatOfAll(2, 4, 3, 3, 2, 1, 5);
    }

    private static void extras() {
        CHECKS.by("3 the EXTRA of an INSTANCE, 0 for others.");
        whatOfAll(3, 0, 0, 42, 0, 0, 0);
    }

    private static void anotherWhatOfAnObject() {
        CHECKS.by("3 the EXTRA of an INSTANCE, 0 for others. Another what: REFUSED.");
        for (int what : new int[] {Integer.MIN_VALUE, -1, 4, 5, Integer.MAX_VALUE}) {
            whatOfAll(what, REFUSED, REFUSED, REFUSED, REFUSED, REFUSED, REFUSED);
        }
    }

    private static void objectsThatAreNotThere() {
        CHECKS.by("What of an object of the HEAP");
        GraphReader x = withEverySort();
        for (int object : NO_OBJECTS) {
            for (int what = -1; what <= 4; what++) {
                CHECKS.same("object(" + object + ", " + what + ")", x.object(object, what), REFUSED);
            }
        }
    }

    private static void heapIsEmpty() {
        CHECKS.by("What of an object of the HEAP");
        GraphReader x = Readers.opened(Hex.refs(Hex.text("a"), "00"));
        for (int turn = 0; turn < 2; turn++) {
            CHECKS.same("object(0, 0)", x.object(0, 0), REFUSED);
            CHECKS.same("value(0, 0)", x.value(0, 0), GraphReader.NONE);
            CHECKS.same("a fault behind two objects", x.read(), GraphReader.CORRUPT);
        }
    }

    private static void numbers() {
        CHECKS.by("Slot, sign or place k, from 0, of an object of the HEAP: its number");
        GraphReader x = withEverySort();
        CHECKS.same("a slot", x.value(INSTANCE, 0), Long.MIN_VALUE);
        CHECKS.values("places", x, INTS, -5, 6);
    }

    private static void numbersOfObjects() {
        CHECKS.by("for an object its number, NULL for NULL");
        GraphReader x = withEverySort();
        CHECKS.values("places", x, REFS, INSTANCE, INTS, CONSTANT, NULL);
        CHECKS.values("slots", x, INSTANCE, Long.MIN_VALUE, REFS, NULL);
    }

    private static void codesOfSigns() {
        CHECKS.by("a TEXT's sign's code.");
        GraphReader x = withEverySort();
        CHECKS.values("signs", x, TEXT, 'x', 'y', 'z');
        CHECKS.values("one sign", x, NAME, 'f');
        GraphReader y = Readers.opened(Hex.text("\u0001\u007F"));
        y.read();
        CHECKS.values("the lowest and the highest", y, 0, 1, 127);
    }

    private static void behindTheLast() {
        CHECKS.by("There is none: NONE.");
        GraphReader x = withEverySort();
        int[] sizes = {4, 3, 3, 2, 1, 0};
        for (int object = 0; object < sizes.length; object++) {
            for (int k : new int[] {Integer.MIN_VALUE, -1, sizes[object], sizes[object] + 1, 25, Integer.MAX_VALUE}) {
                CHECKS.same("value(" + object + ", " + k + ")", x.value(object, k), GraphReader.NONE);
            }
        }
    }

    private static void aConstantHasNoValue() {
        CHECKS.by("There is none: NONE.");
        GraphReader x = withEverySort();
        for (int k = -1; k <= 26; k++) {
            CHECKS.same("value " + k, x.value(CONSTANT, k), GraphReader.NONE);
        }
    }

    private static void valuesOfNoObject() {
        CHECKS.by("There is none: NONE.");
        GraphReader x = withEverySort();
        for (int object : NO_OBJECTS) {
            for (int k = -1; k <= 1; k++) {
                CHECKS.same("value(" + object + ", " + k + ")", x.value(object, k), GraphReader.NONE);
            }
        }
    }

    private static void counts() {
        CHECKS.by("What: 0 PLACE; 1 HANDLES; 2 objects in the HEAP; 3 the fault that lasts, 0 if none; 4 how many BYTES.");
        GraphReader x = withEverySort();
        int bytes = x.count(4);
        CHECKS.counts("in the end", x, bytes - 1, 10, 6, 0, bytes);
        x.put(0, 3);
        CHECKS.counts("behind put", x, bytes - 1, 10, 6, 0, bytes + 3);
        x.begin();
        CHECKS.counts("behind begin", x, 4, 0, 0, 0, bytes + 3);
    }

    private static void countsWhileAFaultLasts() {
        CHECKS.by("3 the fault that lasts, 0 if none");
        GraphReader x = withEverySort();
        int bytes = x.count(4);
        x.read();
        CHECKS.counts("a fault", x, bytes - 1, 10, 6, GraphReader.ABORTED, bytes);
        GraphReader y = Readers.opened("78");
        y.read();
        CHECKS.same("OPTIONAL", y.count(3), 0);
    }

    private static void anotherWhatOfCount() {
        CHECKS.by("4 how many BYTES. Another what: REFUSED.");
        GraphReader x = withEverySort();
        for (int what : new int[] {Integer.MIN_VALUE, -1, 5, 6, Integer.MAX_VALUE}) {
            CHECKS.same("count(" + what + ")", x.count(what), REFUSED);
        }
    }
}
