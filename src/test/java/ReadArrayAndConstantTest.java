/** Promise 7, arrays and constants. */
public final class ReadArrayAndConstantTest {
    private static final Checks CHECKS = new Checks();
    private static final int NULL = GraphReader.NULL;
    private static final int END = GraphReader.END;
    private static final int CORRUPT = GraphReader.CORRUPT;
    private static final int BAD_CLASS = GraphReader.BAD_CLASS;
    private static final int BAD_OBJECT = GraphReader.BAD_OBJECT;
    private static final String OBJECTS = "[Ljava.lang.Object;";

    public static void main(String[] args) {
        ints();
        refs();
        namesOfArrays();
        lengths();
        constants();
        constantsAreShared();
        wrongConstants();
        aConstantWithinItself();
        CHECKS.end();
    }

    private static GraphReader withConstants() {
        GraphReader x = Readers.fresh();
        x.define(0, 3, -1, 0);
        x.define(1, 3, -1, 0);
        x.constant(0, 0, true);
        x.constant(0, 25, true);
        x.constant(1, 0, true);
        return x;
    }

    private static void ints() {
        GraphReader x = Readers.fresh();
        CHECKS.reads("INTS", 0, x, Hex.ints(1, -1, Integer.MIN_VALUE));
        CHECKS.same("sort", x.object(0, 0), 2);
        CHECKS.same("places", x.object(0, 2), 3);
        CHECKS.same("place 0", x.value(0, 0), 1);
        CHECKS.same("place 1", x.value(0, 1), -1);
        CHECKS.same("place 2", x.value(0, 2), Integer.MIN_VALUE);
        CHECKS.same("HANDLES", x.count(1), 2);
        String hex = Hex.ints(1, 2);
        CHECKS.fault("a byte less", END, Readers.fresh(), hex.substring(0, hex.length() - 2));
        GraphReader y = Readers.fresh();
        Hex.open(y, Hex.ints(), "75" + Hex.ref(0) + Hex.u4(1) + Hex.u4(9), Hex.ref(1));
        CHECKS.same("no places", y.read(), 0);
        CHECKS.same("by the same descriptor", y.read(), 1);
        CHECKS.same("its place", y.value(1, 0), 9);
        CHECKS.same("the first by its handle", y.read(), 0);
    }

    private static void refs() {
        GraphReader x = Readers.fresh();
        CHECKS.reads("REFS", 0, x, Hex.refs(Hex.text("a"), Hex.NULL, Hex.ref(1), Hex.ref(2), Hex.ints(7)));
        CHECKS.same("sort", x.object(0, 0), 3);
        CHECKS.same("places", x.object(0, 2), 5);
        int[] wants = {1, NULL, 0, 1, 2};
        for (int k = 0; k < wants.length; k++) {
            CHECKS.same("place " + k, x.value(0, k), wants[k]);
        }
        CHECKS.fault("a place is missing", END, Readers.fresh(), "75" + Hex.desc(OBJECTS, 0, 2, Hex.NULL) + Hex.u4(2) + "70");
        CHECKS.fault("a block as a place", CORRUPT, Readers.fresh(), Hex.refs(Hex.block("")));
    }

    private static void namesOfArrays() {
        String[] names = {"A", "[", "I", "[J", "[II", "[i", "", "[Ljava.lang.Object", "[Ljava.lang.Object;;",
            "[Ljava.lang.object;", "[Ljava.lang.String;", "]I", "]Ljava.lang.Object;"};
        for (String name : names) {
            GraphReader x = Readers.fresh();
            x.define(0, 1, -1, 0);
            CHECKS.fault("an array named " + name, BAD_CLASS, x, "75" + Hex.desc(name, 0, 2, Hex.NULL));
        }
        CHECKS.reads("any id and flags will do", 0, Readers.fresh(), "75" + Hex.desc("[I", 7, 0, Hex.NULL) + Hex.u4(0));
    }

    private static void lengths() {
        for (String name : new String[] {"[I", OBJECTS}) {
            String array = "75" + Hex.desc(name, 0, 2, Hex.NULL);
            CHECKS.fault("no length", END, Readers.fresh(), array + "000000");
            CHECKS.fault("a length of -1", BAD_OBJECT, Readers.fresh(), array + Hex.u4(-1));
            CHECKS.fault("the lowest length", BAD_OBJECT, Readers.fresh(), array + Hex.u4(Integer.MIN_VALUE));
            CHECKS.fault("the highest length", GraphReader.LIMIT, Readers.fresh(), array + Hex.u4(Integer.MAX_VALUE));
            CHECKS.fault("BAD_OBJECT before LIMIT", BAD_OBJECT, new GraphReader(1, 1, 0, 4), array + Hex.u4(-1));
        }
    }

    private static void constants() {
        GraphReader x = withConstants();
        CHECKS.reads("a constant", 1, x, "7E" + Hex.desc("A", 0, 0x12, Hex.NULL) + Hex.text("z"));
        CHECKS.same("the text comes first", x.object(0, 0), 1);
        CHECKS.same("sort", x.object(1, 0), 4);
        CHECKS.same("class", x.object(1, 1), 0);
        CHECKS.same("name", x.object(1, 2), 25);
        CHECKS.same("HANDLES", x.count(1), 3);
        GraphReader y = withConstants();
        Hex.open(y, Hex.text("a"), "7E" + Hex.desc("B", 0, 0x10, Hex.NULL) + Hex.ref(0), Hex.ref(2));
        y.read();
        CHECKS.same("its name by a handle", y.read(), 1);
        CHECKS.same("the constant by its handle", y.read(), 1);
    }

    private static void constantsAreShared() {
        GraphReader x = withConstants();
        Hex.open(x, "7E" + Hex.desc("A", 0, 0x12, Hex.NULL) + Hex.text("a"), "7E" + Hex.ref(0) + Hex.ref(2),
                "7E" + Hex.ref(0) + Hex.text("z"), "7E" + Hex.desc("B", 0, 0x12, Hex.NULL) + Hex.ref(2),
                "79" + "7E" + Hex.desc("A", 0, 0x12, Hex.NULL) + Hex.text("a"));
        CHECKS.same("a of A", x.read(), 1);
        CHECKS.same("a of A again", x.read(), 1);
        CHECKS.same("HANDLES", x.count(1), 4);
        CHECKS.same("z of A", x.read(), 3);
        CHECKS.same("a of B", x.read(), 4);
        CHECKS.same("a of A behind a reset", x.read(), 1);
        CHECKS.same("HEAP", x.count(2), 6);
        x.begin();
        CHECKS.same("begun again, a new one", x.read(), 1);
    }

    private static void wrongConstants() {
        String constant = "7E" + Hex.desc("A", 0, 0x12, Hex.NULL);
        String[] contents = {Hex.text("b"), Hex.text(""), Hex.text("aa"), Hex.text("A"), Hex.text("`"), Hex.text("{"),
            Hex.text("!"), Hex.NULL, Hex.ints(97), Hex.desc("X", 0, 2, Hex.NULL), Hex.refs(Hex.text("a"))};
        for (String content : contents) {
            CHECKS.fault("a constant named by " + content, BAD_OBJECT, withConstants(), constant + content);
        }
        CHECKS.fault("no name", END, withConstants(), constant);
        CHECKS.fault("a block for a name", CORRUPT, withConstants(), constant + Hex.block(""));
        CHECKS.fault("no constant's descriptor", BAD_CLASS, withConstants(),
                "7E" + Hex.desc("F", 0, 2, Hex.NULL) + Hex.text("a"));
        CHECKS.fault("no class", GraphReader.UNKNOWN, withConstants(),
                "7E" + Hex.desc("F", 0, 0x12, Hex.NULL) + Hex.text("a"));
        CHECKS.fault("UNKNOWN before its name", GraphReader.UNKNOWN, withConstants(),
                "7E" + Hex.desc("F", 0, 0x12, Hex.NULL));
    }

    private static void aConstantWithinItself() {
        String constant = "7E" + Hex.desc("A", 0, 0x12, Hex.NULL);
        CHECKS.fault("its own handle is NULL", BAD_OBJECT, withConstants(), constant + Hex.ref(1));
        CHECKS.fault("its descriptor's handle", CORRUPT, withConstants(), constant + Hex.ref(0));
    }
}
