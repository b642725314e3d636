/** Promise 7, limits: who asks them, when, and before what. */
public final class LimitsTest {
    private static final Checks CHECKS = new Checks();
    private static final int NULL = GraphReader.NULL;
    private static final int LIMIT = GraphReader.LIMIT;
    private static final int END = GraphReader.END;
    private static final String A = Hex.desc("A", 0, 2, Hex.NULL);
    private static final String CONSTANT = Hex.desc("B", 0, 0x12, Hex.NULL);

    public static void main(String[] args) {
        depthOfEachSort();
        handlesOfEachSort();
        placeOfEachSort();
        limitsComeFirst();
        deeperThanEight();
        moreThanSixtyHandles();
        CHECKS.end();
    }

    private static GraphReader reader(int depth, int handles, int length, int bytes) {
        GraphReader x = new GraphReader(depth, handles, length, bytes);
        x.define(0, 1, -1, 0);
        x.define(1, 3, -1, 0);
        x.constant(1, 0, true);
        return x;
    }

    private static void depthOfEachSort() {
        String[] asking = {"73" + A, Hex.ints(1), Hex.refs(), "7E" + CONSTANT + Hex.text("a")};
        for (String content : asking) {
            CHECKS.fault("depth 3 under 2", LIMIT, reader(2, 60, 20, 700), Hex.refs(Hex.refs(content)));
            CHECKS.reads("depth 3 under 3", 0, reader(3, 60, 20, 700), Hex.refs(Hex.refs(content)));
        }
        String[] others = {Hex.text("a"), Hex.NULL, Hex.ref(1), A};
        for (String content : others) {
            CHECKS.reads("depth 2 under 1", 0, reader(1, 60, 20, 700), Hex.refs(content));
        }
        GraphReader x = reader(1, 60, 20, 700);
        x.field(0, 0, 7);
        CHECKS.fault("a field is one deeper", LIMIT, x,
                "73" + Hex.desc("A", 0, 2, Hex.NULL, Hex.field('L', "a", Hex.text("s"))) + Hex.ints());
        CHECKS.fault("a rest is one deeper", LIMIT, reader(1, 60, 20, 700),
                "73" + Hex.desc("A", 0, 3, Hex.NULL) + Hex.ints() + "78");
        CHECKS.fault("a constant's name is one deeper", LIMIT, reader(1, 60, 20, 700), "7E" + CONSTANT + Hex.ints());
    }

    private static void handlesOfEachSort() {
        String[] asking = {"73" + A, Hex.ints(1), Hex.refs(), "7E" + CONSTANT + Hex.text("a")};
        for (String content : asking) {
            for (int handles = 1; handles <= 4; handles++) {
                GraphReader x = reader(8, handles, 20, 700);
                Hex.open(x, Hex.text(""), Hex.text(""), content);
                CHECKS.same("a text", x.read(), 0);
                CHECKS.same("a text, whatever the limit", x.read(), 1);
                boolean passes = x.read() >= 0;
                CHECKS.same("3 handles under " + handles, passes ? 1 : 0, handles >= 3 ? 1 : 0);
            }
        }
    }

    private static void placeOfEachSort() {
        String[] asking = {"73" + A, Hex.ints(), Hex.refs(), "7E" + CONSTANT};
        for (int k = 0; k < asking.length; k++) {
            int place = 4 + asking[k].length() / 2;
            String tail = k == 3 ? Hex.text("a") : "";
            CHECKS.fault("PLACE above the limit", LIMIT, reader(8, 60, 20, place - 1), asking[k] + tail);
            GraphReader x = reader(8, 60, 20, place);
            Hex.open(x, asking[k] + tail);
            CHECKS.same("PLACE at the limit", x.read(), k == 3 ? 1 : 0);
        }
        CHECKS.reads("INTS behind the limit", 0, reader(8, 60, 20, 4 + Hex.ints().length() / 2), Hex.ints(1, 2, 3));
    }

    private static void limitsComeFirst() {
        CHECKS.fault("before UNKNOWN", LIMIT, reader(8, 60, 20, 4), "73" + Hex.desc("F", 0, 2, Hex.NULL));
        CHECKS.fault("before BAD_CLASS of an instance", LIMIT, reader(8, 60, 20, 4), "73" + CONSTANT);
        CHECKS.fault("before BAD_CLASS of a constant", LIMIT, reader(8, 60, 20, 4), "7E" + A);
        CHECKS.fault("behind NULL", GraphReader.CORRUPT, reader(8, 60, 20, 4), "73" + Hex.NULL);
        CHECKS.fault("behind an array's name", GraphReader.BAD_CLASS, reader(8, 60, 20, 4), "75" + A);
        CHECKS.fault("behind an array's length", END, reader(8, 60, 20, 4), "75" + Hex.desc("[I", 0, 2, Hex.NULL));
        CHECKS.fault("before places are read", LIMIT, reader(8, 60, 3, 700),
                "75" + Hex.desc("[I", 0, 2, Hex.NULL) + Hex.u4(4));
        CHECKS.reads("at the length", 0, reader(8, 60, 3, 700), Hex.ints(1, 2, 3));
        CHECKS.reads("an instance has no length", 0, reader(8, 60, 0, 700), "73" + A);
        CHECKS.reads("a constant has no length", 1, reader(8, 60, 0, 700), "7E" + CONSTANT + Hex.text("a"));
    }

    /** So many descriptors, each in the rest of the one before it, up to where the next would begin. */
    private static String restsWithin(int depth) {
        return ("72" + Hex.utf("X") + Hex.i8(0) + "02" + "0000").repeat(depth);
    }

    private static void deeperThanEight() {
        CHECKS.fault("at depth 8 a byte is needed", END, reader(8, 60, 20, 700),
                restsWithin(7) + "7200015800000000000000000200014C0001");
        CHECKS.fault("a read at depth 9 needs no byte", LIMIT, reader(8, 60, 20, 700),
                restsWithin(7) + "72" + Hex.utf("X") + Hex.i8(0) + "02" + "0001" + Hex.field('L', "a"));
        CHECKS.fault("a place at depth 9 needs no byte", LIMIT, reader(8, 60, 20, 700),
                restsWithin(7) + "75" + Hex.desc("[Ljava.lang.Object;", 0, 2, Hex.NULL) + Hex.u4(1));
        CHECKS.fault("a constant's name at depth 9", LIMIT, reader(8, 60, 20, 700), restsWithin(7) + "7E" + CONSTANT);
        CHECKS.fault("a rest needs a byte", END, reader(8, 60, 20, 700), restsWithin(8));
        CHECKS.fault("NULL in a rest at depth 9", LIMIT, reader(8, 60, 20, 700), restsWithin(8) + Hex.NULL);
        CHECKS.reads("blocks in a rest at depth 8", NULL, reader(8, 60, 20, 700),
                restsWithin(8) + Hex.block("00") + "7870".repeat(8));
        String[] readersOfDepth8 = {Hex.text("a"), "7E" + CONSTANT + Hex.text("a"), Hex.refs(Hex.text("a")),
            Hex.desc("X", 0, 2, Hex.NULL, Hex.field('L', "a", Hex.text("s"))),
            "73" + Hex.desc("A", 0, 3, Hex.NULL) + Hex.text("a") + "78",
            "73" + Hex.desc("A", 0, 2, Hex.NULL, Hex.field('L', "a", Hex.text("s"))) + Hex.text("a")};
        for (String content : readersOfDepth8) {
            CHECKS.reads("a text at depth 8 or 7", NULL, reader(8, 60, 20, 700),
                    restsWithin(6) + content + "7870".repeat(6));
        }
        CHECKS.reads("a text at depth 8", NULL, reader(8, 60, 20, 700),
                restsWithin(7) + Hex.text("a") + "7870".repeat(7));
    }

    private static GraphReader behindTexts(int texts, String tail) {
        GraphReader x = reader(8, 60, 20, 700);
        Hex.open(x, Hex.text("").repeat(texts), tail);
        for (int k = 0; k < texts; k++) {
            CHECKS.same("a text", x.read(), k);
        }
        return x;
    }

    private static void moreThanSixtyHandles() {
        CHECKS.same("60 handles and no byte", behindTexts(60, "").read(), END);
        CHECKS.same("60 handles", behindTexts(60, Hex.text("")).read(), 60);
        CHECKS.same("61 handles and no byte", behindTexts(61, "").read(), LIMIT);
        CHECKS.same("61 handles and NULL", behindTexts(61, Hex.NULL).read(), LIMIT);
        CHECKS.same("61 handles and a block", behindTexts(61, Hex.block("")).read(), LIMIT);
        GraphReader x = behindTexts(61, "7970");
        CHECKS.same("61 handles and a reset", x.read(), LIMIT);
        CHECKS.same("it lasts", x.count(3), LIMIT);
        CHECKS.same("HANDLES", x.count(1), 61);
        CHECKS.same("60 handles and a reset", behindTexts(60, "79" + Hex.text("")).read(), 60);
        String eight = Hex.desc("X", 0, 2, Hex.NULL);
        for (int k = 0; k < 7; k++) {
            eight = Hex.desc("X", 0, 2, eight);
        }
        GraphReader y = behindTexts(60, eight);
        CHECKS.same("descriptors may go beyond 60", y.read(), NULL);
        CHECKS.same("HANDLES", y.count(1), 68);
        CHECKS.same("but no read behind them", y.read(), LIMIT);
        String blocks = "72" + Hex.utf("X") + Hex.i8(0) + "02" + "0000" + Hex.block("00") + "78" + Hex.NULL;
        CHECKS.same("blocks in a rest with 61 handles", behindTexts(60, blocks).read(), NULL);
        String within = "72" + Hex.utf("X") + Hex.i8(0) + "02" + "0000" + Hex.NULL + "78" + Hex.NULL;
        CHECKS.same("a read in a rest with 61 handles", behindTexts(60, within).read(), LIMIT);
        CHECKS.same("a read in a rest with 60 handles", behindTexts(59, within).read(), NULL);
    }
}
