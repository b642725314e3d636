/** Promise 7, arrays: INTS and REFS. */
public final class ReadArrayTest {
    private static final Checks CHECKS = new Checks();
    private static final int NULL = GraphReader.NULL;
    private static final int END = GraphReader.END;
    private static final int CORRUPT = GraphReader.CORRUPT;
    private static final int BAD_OBJECT = GraphReader.BAD_OBJECT;
    private static final String[] NAMES = {"[I", Hex.OBJECTS};

    public static void main(String[] args) {
        nullDescriptor();
        otherNames();
        idAndFlagsDoNotMatter();
        lengthIsMissing();
        lengthBelow0();
        lengthBelow0BeforeLimits();
        lengthTooLarge();
        noPlaces();
        asManyPlacesAsThereCanBe();
        anEntry();
        intsByU4();
        refsByReadsOneDeeper();
        placesThatAreMissing();
        CHECKS.end();
    }

    private static void nullDescriptor() {
        CHECKS.by("75: a DESCRIPTOR, not NULL (CORRUPT)");
        CHECKS.fault("NULL", CORRUPT, Readers.fresh(), "75" + Hex.NULL + Hex.u4(0));
    }

    private static void otherNames() {
        CHECKS.by("named '[I' or '[Ljava.lang.Object;' (else BAD_CLASS)");
        String[] names = {"A", "B", "[", "I", "[J", "[II", "[i", "]I", "I[", "", "[Ljava.lang.Object", "[Ljava.lang.Object;;",
            "[Ljava.lang.object;", "[Ljava.lang.String;", "]Ljava.lang.Object;", "Ljava.lang.Object;", "[[I"};
        for (String name : names) {
            CHECKS.fault("an array named " + name, GraphReader.BAD_CLASS, Readers.with(Readers.SERIAL),
                    "75" + Hex.desc(name));
        }
    }

    private static void idAndFlagsDoNotMatter() {
        CHECKS.by("named '[I' or '[Ljava.lang.Object;' (else BAD_CLASS)");
        for (String name : NAMES) {
            CHECKS.reads("an id", 0, Readers.fresh(), "75" + Hex.desc(name, -7, 0, Hex.NULL) + Hex.u4(0));
            CHECKS.reads("a constant's flag", 0, Readers.fresh(), "75" + Hex.constantDesc(name) + Hex.u4(0));
            CHECKS.reads("fields", 0, Readers.fresh(),
                    "75" + Hex.desc(name, 0, 3, Hex.desc("X"), Hex.field('I', "a")) + Hex.u4(0));
        }
    }

    private static void lengthIsMissing() {
        CHECKS.by("Whatever needs a byte where there is none is the fault END.");
        for (String name : NAMES) {
            for (int bytes = 0; bytes < 4; bytes++) {
                CHECKS.fault(bytes + " bytes", END, Readers.fresh(), "75" + Hex.desc(name) + "FF".repeat(bytes));
            }
        }
    }

    private static void lengthBelow0() {
        CHECKS.by("U4, the length, below 0: BAD_OBJECT");
        for (String name : NAMES) {
            for (int length : new int[] {-1, -2, Integer.MIN_VALUE}) {
                CHECKS.fault("length " + length, BAD_OBJECT, Readers.fresh(), "75" + Hex.desc(name) + Hex.u4(length));
            }
        }
    }

    private static void lengthBelow0BeforeLimits() {
        CHECKS.by("U4, the length, below 0: BAD_OBJECT; LIMITS are asked with it.");
        for (String name : NAMES) {
            CHECKS.fault("below 0", BAD_OBJECT, new GraphReader(1, 1, 0, 4), "75" + Hex.desc(name) + Hex.u4(-1));
            CHECKS.fault("not below 0", GraphReader.LIMIT, new GraphReader(1, 1, 0, 4), "75" + Hex.desc(name) + Hex.u4(0));
        }
    }

    private static void lengthTooLarge() {
        CHECKS.by("LIMITS are asked with it.");
        for (String name : NAMES) {
            for (int length : new int[] {21, 256, 65536, Integer.MAX_VALUE}) {
                CHECKS.fault("length " + length, GraphReader.LIMIT, Readers.fresh(), "75" + Hex.desc(name) + Hex.u4(length));
            }
        }
    }

    private static void noPlaces() {
        CHECKS.by("An entry: INTS or REFS of that length");
        for (int k = 0; k < 2; k++) {
            GraphReader x = Readers.fresh();
            CHECKS.reads("an array", 0, x, "75" + Hex.desc(NAMES[k]) + Hex.u4(0));
            CHECKS.same("sort", x.object(0, 0), 2 + k);
            CHECKS.same("places", x.object(0, 2), 0);
            CHECKS.values("none", x, 0);
        }
    }

    private static void asManyPlacesAsThereCanBe() {
        CHECKS.by("An entry: INTS or REFS of that length");
        GraphReader x = Readers.fresh();
        StringBuilder texts = new StringBuilder();
        long[] wants = new long[20];
        for (int k = 0; k < 20; k++) {
            texts.append(Hex.text("a"));
            wants[k] = k + 1;
        }
        CHECKS.reads("REFS", 0, x, "75" + Hex.desc(Hex.OBJECTS) + Hex.u4(20) + texts);
        CHECKS.values("20 places", x, 0, wants);
        GraphReader y = Readers.fresh();
        int[] numbers = new int[20];
        for (int k = 0; k < 20; k++) {
            numbers[k] = k + 1;
        }
        CHECKS.reads("INTS", 0, y, Hex.ints(numbers));
        CHECKS.values("20 places", y, 0, wants);
    }

    private static void anEntry() {
        CHECKS.by("An entry: INTS or REFS of that length");
        GraphReader x = Readers.opened(Hex.ints(), "75" + Hex.ref(0) + Hex.u4(1) + Hex.u4(9), Hex.ref(1), Hex.ref(2));
        CHECKS.readsInTurn(x, 0, 1);
        CHECKS.same("HANDLES", x.count(1), 3);
        CHECKS.readsInTurn(x, 0, 1);
        CHECKS.values("by the same descriptor", x, 1, 9);
        CHECKS.same("no class", x.object(1, 1), GraphReader.REFUSED);
    }

    private static void intsByU4() {
        CHECKS.by("then for each place U4, or a READ one deeper.");
        GraphReader x = Readers.fresh();
        CHECKS.reads("INTS", 0, x, Hex.ints(1, -1, Integer.MIN_VALUE, Integer.MAX_VALUE, 0x70707070));
        CHECKS.values("places", x, 0, 1, -1, Integer.MIN_VALUE, Integer.MAX_VALUE, 0x70707070);
    }

    private static void refsByReadsOneDeeper() {
        CHECKS.by("then for each place U4, or a READ one deeper.");
        GraphReader x = Readers.fresh();
        CHECKS.reads("REFS", 0, x, Hex.refs(Hex.text("a"), Hex.NULL, Hex.ref(1), Hex.ref(2), Hex.ints(7), Hex.desc("X")));
        CHECKS.values("places", x, 0, 1, NULL, 0, 1, 2, NULL);
        CHECKS.fault("a block", CORRUPT, Readers.fresh(), Hex.refs(Hex.block("")));
        CHECKS.fault("an abort", GraphReader.ABORTED, Readers.fresh(), Hex.refs("7B"));
    }

    private static void placesThatAreMissing() {
        CHECKS.by("Whatever needs a byte where there is none is the fault END.");
        String ints = Hex.ints(1, 2);
        for (int missing = 1; missing <= 8; missing++) {
            CHECKS.fault(missing + " bytes of INTS", END, Readers.fresh(), ints.substring(0, ints.length() - 2 * missing));
        }
        CHECKS.fault("a place of REFS", END, Readers.fresh(), "75" + Hex.desc(Hex.OBJECTS) + Hex.u4(2) + Hex.NULL);
    }
}
