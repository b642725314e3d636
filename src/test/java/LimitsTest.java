/** Promise 7, limits: who asks them, when, and before what. */
public final class LimitsTest {
    private static final Checks CHECKS = new Checks();
    private static final int NULL = GraphReader.NULL;
    private static final int LIMIT = GraphReader.LIMIT;
    private static final int END = GraphReader.END;
    private static final int MOST = 1000;
    private static final String A = Hex.desc("A");
    private static final String CONSTANT = Hex.constantDesc("B");
    // What asks limits: an instance, INTS, REFS, a constant up to where its name is read.
    private static final String[] ASKING = {"73" + A, Hex.ints(), Hex.refs(), "7E" + CONSTANT};
    private static final String[] BEHIND = {"", "", "", Hex.text("a")};

    public static void main(String[] args) {
        depthAboveD();
        everyWayDeeper();
        handlesAboveR();
        entriesOfItsOwnDoNotCount();
        lengthAboveA();
        onlyArraysHaveALength();
        placeAboveB();
        placeBehindTheAsking();
        barred();
        othersAskNoLimits();
        beforeOtherFaultsOfAnInstance();
        beforeOtherFaultsOfAConstant();
        behindOtherFaultsOfAnArray();
        beforeAnythingIsMade();
        deeperThan8();
        deeperThan8NeedsNoByte();
        blocksAreNoReads();
        moreThan60Handles();
        moreThan60HandlesDeeper();
        entriesBeyond60();
        CHECKS.end();
    }

    private static GraphReader reader(int depth, int handles, int length, int bytes) {
        GraphReader x = new GraphReader(depth, handles, length, bytes);
        x.define(0, Readers.SERIAL, -1, 0);
        x.define(1, Readers.CONSTANT, -1, 0);
        x.constant(1, 0, true);
        return x;
    }

    private static void depthAboveD() {
        CHECKS.by("LIMIT if the DEPTH is above D");
        for (int k = 0; k < ASKING.length; k++) {
            String content = ASKING[k] + BEHIND[k];
            for (int depth = 1; depth <= 4; depth++) {
                String stream = Hex.restsWithin(depth - 1) + content + Hex.endOfRests(depth - 1);
                GraphReader within = reader(depth, MOST, MOST, MOST);
                Hex.open(within, stream);
                CHECKS.same("depth " + depth + " of content " + k, within.read() < NULL ? 0 : 1, 1);
                CHECKS.fault("depth " + (depth + 1) + " of content " + k, LIMIT, reader(depth, MOST, MOST, MOST),
                        Hex.restsWithin(1) + stream + Hex.endOfRests(1));
            }
        }
    }

    /** Streams up to where a read one deeper than the first begins, in each way that there is. */
    private static String[] waysDeeper() {
        String inARest = Hex.untilRest("X", 0, 2);
        String inAField = Hex.untilFlags("X", 0) + "02" + "0001" + Hex.field('L', "a");
        String objectField = Hex.field('L', "a", Hex.text("s"));
        return new String[] {"75" + Hex.desc(Hex.OBJECTS) + Hex.u4(1), "7E" + CONSTANT,
            "73" + Hex.desc("A", 0, 2, Hex.NULL, objectField), "73" + Hex.desc("A", 0, 3, Hex.NULL),
            "73" + Hex.desc("A", 0, 2, Hex.desc("X", 0, 2, Hex.NULL, objectField)),
            "73" + Hex.desc("A", 0, 2, Hex.desc("X", 0, 3, Hex.NULL)),
            inARest, inAField, "73" + inARest, "73" + inAField, "75" + inARest, "75" + inAField,
            "7E" + inARest, "7E" + inAField, Hex.tower(1, inARest), Hex.tower(7, inARest), Hex.tower(7, inAField)};
    }

    private static void everyWayDeeper() {
        CHECKS.by("(a READ from outside is at DEPTH 1, one within another one deeper)");
        String content = "75" + Hex.desc("[I") + Hex.u4(1);
        String[] ways = waysDeeper();
        for (int k = 0; k < ways.length; k++) {
            CHECKS.fault("way " + k + " under 1", LIMIT, reader(1, MOST, MOST, MOST), ways[k] + content);
            CHECKS.fault("way " + k + " under 2", END, reader(2, MOST, MOST, MOST), ways[k] + content);
        }
    }

    private static void handlesAboveR() {
        CHECKS.by("HANDLES are more than R");
        for (int k = 0; k < ASKING.length; k++) {
            for (int handles = 1; handles <= 6; handles++) {
                GraphReader x = Readers.behindTexts(reader(8, handles, MOST, MOST), 3, ASKING[k] + BEHIND[k]);
                CHECKS.same("4 under " + handles, x.read() < NULL ? LIMIT : 0, handles < 4 ? LIMIT : 0);
            }
        }
    }

    private static void entriesOfItsOwnDoNotCount() {
        CHECKS.by("HANDLES are more than R");
        for (int k = 0; k < ASKING.length; k++) {
            GraphReader x = reader(8, 1, MOST, MOST);
            Hex.open(x, ASKING[k] + BEHIND[k]);
            CHECKS.same("content " + k, x.read() < NULL ? 0 : 1, 1);
            CHECKS.same("its descriptor, its own and a name's", x.count(1), k == 3 ? 3 : 2);
        }
        GraphReader y = reader(8, 1, MOST, MOST);
        Hex.open(y, Hex.text("a"), "79" + "73" + A);
        CHECKS.readsInTurn(y, 0, 1);
    }

    private static void lengthAboveA() {
        CHECKS.by("a length is above A");
        for (int length = 0; length <= 20; length++) {
            CHECKS.reads("INTS at " + length, 0, reader(8, MOST, length, MOST), Hex.ints(new int[length]));
            CHECKS.fault("INTS above " + length, LIMIT, reader(8, MOST, length, MOST), Hex.ints(new int[length + 1]));
            String refs = "75" + Hex.desc(Hex.OBJECTS) + Hex.u4(length);
            CHECKS.reads("REFS at " + length, 0, reader(8, MOST, length, MOST), refs + Hex.NULL.repeat(length));
            CHECKS.fault("REFS above " + length, LIMIT, reader(8, MOST, length, MOST),
                    "75" + Hex.desc(Hex.OBJECTS) + Hex.u4(length + 1) + Hex.NULL.repeat(length + 1));
        }
    }

    private static void onlyArraysHaveALength() {
        CHECKS.by("a length is above A");
        GraphReader x = reader(8, MOST, 0, MOST);
        Readers.addFields(x, 0, 0, 0, 0, 0);
        CHECKS.reads("an instance of 4 SLOTS", 0, x, "73" + A);
        CHECKS.reads("a constant", 1, reader(8, MOST, 0, MOST), "7E" + CONSTANT + Hex.text("a"));
        CHECKS.reads("a text", 0, reader(8, MOST, 0, MOST), Hex.text("a".repeat(100)));
        CHECKS.reads("a block", NULL, reader(8, MOST, 0, MOST), Hex.untilRest("X", 0, 2) + Hex.block("0102") + "7870");
    }

    private static void placeAboveB() {
        CHECKS.by("PLACE is above B");
        for (int k = 0; k < ASKING.length; k++) {
            int place = 4 + Hex.size(ASKING[k]);
            CHECKS.fault("content " + k + " above B", LIMIT, reader(8, MOST, MOST, place - 1), ASKING[k] + BEHIND[k]);
            GraphReader x = reader(8, MOST, MOST, place);
            Hex.open(x, ASKING[k] + BEHIND[k]);
            CHECKS.same("content " + k + " at B", x.read(), k == 3 ? 1 : 0);
        }
    }

    private static void placeBehindTheAsking() {
        CHECKS.by("PLACE is above B");
        GraphReader x = reader(8, MOST, MOST, 4 + Hex.size(Hex.ints()));
        Hex.open(x, Hex.ints(1, 2, 3), Hex.text("a"), "75" + Hex.ref(0) + Hex.u4(0));
        CHECKS.readsInTurn(x, 0, 1, LIMIT);
    }

    private static void barred() {
        CHECKS.by("or the DESCRIPTOR's local class is one that was barred.");
        GraphReader x = reader(8, MOST, MOST, MOST);
        x.constant(0, 0, true);
        CHECKS.fault("an instance", LIMIT, x, "73" + A);
        GraphReader y = reader(8, MOST, MOST, MOST);
        y.constant(0, 0, true);
        CHECKS.fault("before BAD_CLASS of a constant", LIMIT, y, "7E" + A + Hex.text("a"));
        GraphReader z = reader(8, MOST, MOST, MOST);
        z.define(2, Readers.PLAIN, -1, 0);
        z.constant(2, 0, true);
        CHECKS.fault("before BAD_CLASS of a PLAIN class", LIMIT, z, "73" + Hex.desc("C"));
    }

    private static void othersAskNoLimits() {
        CHECKS.by("LIMITS are asked: LIMIT if the DEPTH is above D; HANDLES are more than R; a length is above A; PLACE is above B; or the DESCRIPTOR's local class is one that was barred.");
        String[] others = {Hex.text("a"), Hex.NULL, Hex.ref(0), Hex.desc("A")};
        for (int k = 0; k < others.length; k++) {
            GraphReader x = reader(1, 1, 0, 4);
            x.constant(0, 0, true);
            Readers.behindTexts(x, 3, others[k], Hex.restsWithin(1) + others[k] + Hex.endOfRests(1));
            CHECKS.same("content " + k, x.read() < NULL ? LIMIT : 0, 0);
            CHECKS.same("content " + k + ", deeper", x.read(), NULL);
        }
    }

    private static void beforeOtherFaultsOfAnInstance() {
        CHECKS.by("73: a DESCRIPTOR is read; NULL: CORRUPT. LIMITS are asked.");
        GraphReader plain = reader(8, MOST, MOST, 4);
        plain.define(2, Readers.PLAIN, -1, 0);
        CHECKS.fault("BAD_CLASS of a PLAIN class", LIMIT, plain, "73" + Hex.desc("C"));
        CHECKS.fault("BAD_CLASS of a constant", LIMIT, reader(8, MOST, MOST, 4), "73" + CONSTANT);
        CHECKS.fault("UNKNOWN", LIMIT, reader(8, MOST, MOST, 4), "73" + Hex.desc("F"));
        CHECKS.fault("but behind NULL", GraphReader.CORRUPT, reader(8, MOST, MOST, 4), "73" + Hex.NULL);
    }

    private static void beforeOtherFaultsOfAConstant() {
        CHECKS.by("LIMITS; it must be of a CONSTANT (BAD_CLASS)");
        CHECKS.fault("BAD_CLASS", LIMIT, reader(8, MOST, MOST, 4), "7E" + A);
        CHECKS.fault("UNKNOWN", LIMIT, reader(8, MOST, MOST, 4), "7E" + Hex.constantDesc("F"));
        CHECKS.fault("but behind NULL", GraphReader.CORRUPT, reader(8, MOST, MOST, 4), "7E" + Hex.NULL);
    }

    private static void behindOtherFaultsOfAnArray() {
        CHECKS.by("U4, the length, below 0: BAD_OBJECT; LIMITS are asked with it.");
        CHECKS.fault("NULL", GraphReader.CORRUPT, reader(1, 1, 0, 4), "75" + Hex.NULL);
        CHECKS.fault("its name", GraphReader.BAD_CLASS, reader(1, 1, 0, 4), "75" + A);
        CHECKS.fault("no length", END, reader(1, 1, 0, 4), "75" + Hex.desc("[I"));
        CHECKS.fault("a length below 0", GraphReader.BAD_OBJECT, reader(1, 1, 0, 4), "75" + Hex.desc("[I") + Hex.u4(-1));
    }

    private static void beforeAnythingIsMade() {
        CHECKS.by("LIMITS are asked with it. An entry: INTS or REFS of that length; then for each place U4, or a READ one deeper.");
        CHECKS.fault("before places are read", LIMIT, reader(8, MOST, 3, MOST), "75" + Hex.desc("[I") + Hex.u4(4));
        CHECKS.fault("before a wrong place", LIMIT, reader(8, MOST, 0, MOST), "75" + Hex.desc(Hex.OBJECTS) + Hex.u4(1) + "00");
        CHECKS.fault("before wrong data", LIMIT, reader(8, MOST, MOST, 4), "73" + Hex.desc("A", 0, 3, Hex.NULL) + "00");
        CHECKS.fault("before a wrong name", LIMIT, reader(8, MOST, MOST, 4), "7E" + CONSTANT + "00");
    }

    private static void deeperThan8() {
        CHECKS.by("(A READ deeper than 8, or with more than 60 HANDLES: LIMIT at its beginning, before it needs a byte.)");
        String[] good = {Hex.NULL, Hex.text("a"), Hex.desc("Y")};
        for (String content : good) {
            CHECKS.reads(content + " at depth 8", NULL, reader(8, MOST, MOST, MOST),
                    Hex.restsWithin(7) + content + Hex.endOfRests(7));
            CHECKS.fault(content + " at depth 9", LIMIT, reader(8, MOST, MOST, MOST), Hex.restsWithin(8) + content);
        }
        String[] faults = {Hex.ref(9), "7B", "79", "00"};
        for (String content : faults) {
            CHECKS.fault(content + " at depth 9", LIMIT, reader(8, MOST, MOST, MOST), Hex.restsWithin(8) + content);
        }
    }

    private static void deeperThan8NeedsNoByte() {
        CHECKS.by("(A READ deeper than 8, or with more than 60 HANDLES: LIMIT at its beginning, before it needs a byte.)");
        String known = Hex.desc("A", 0, 2, Hex.NULL, Hex.field('L', "a", Hex.text("s")));
        String[] ways = {"73" + Hex.ref(0), Hex.untilFlags("X", 0) + "02" + "0001" + Hex.field('L', "a"),
            "75" + Hex.desc(Hex.OBJECTS) + Hex.u4(1), "7E" + CONSTANT};
        for (int k = 0; k < ways.length; k++) {
            GraphReader x = reader(8, MOST, MOST, MOST);
            Hex.open(x, known, Hex.restsWithin(6) + ways[k]);
            CHECKS.readsInTurn(x, NULL, END);
            GraphReader y = reader(8, MOST, MOST, MOST);
            Hex.open(y, known, Hex.restsWithin(7) + ways[k]);
            CHECKS.readsInTurn(y, NULL, LIMIT);
        }
    }

    private static void blocksAreNoReads() {
        CHECKS.by("(A READ deeper than 8, or with more than 60 HANDLES: LIMIT at its beginning, before it needs a byte.)");
        CHECKS.fault("a rest at depth 8 needs a byte", END, reader(8, MOST, MOST, MOST), Hex.restsWithin(8));
        CHECKS.reads("blocks in a rest at depth 8", NULL, reader(8, MOST, MOST, MOST),
                Hex.restsWithin(8) + Hex.block("00") + Hex.longBlock("00") + Hex.endOfRests(8));
        GraphReader x = Readers.behindTexts(60, Hex.untilRest("X", 0, 2) + Hex.block("00") + "78" + Hex.NULL);
        CHECKS.same("blocks in a rest with 61", x.read(), NULL);
        GraphReader y = Readers.behindTexts(61, Hex.block("0102"));
        CHECKS.same("passBlock with 61", y.passBlock(), 2);
    }

    private static void moreThan60Handles() {
        CHECKS.by("(A READ deeper than 8, or with more than 60 HANDLES: LIMIT at its beginning, before it needs a byte.)");
        CHECKS.same("60 and no byte", Readers.behindTexts(60).read(), END);
        CHECKS.same("60 and a text", Readers.behindTexts(60, Hex.text("")).read(), 60);
        CHECKS.same("60 and a reset", Readers.behindTexts(60, "79" + Hex.text("")).read(), 60);
        for (String content : new String[] {"", Hex.NULL, Hex.block(""), "78", "7B", "00", "79" + Hex.NULL, Hex.text("")}) {
            GraphReader x = Readers.behindTexts(61, content);
            int place = x.count(0);
            CHECKS.same("61 and " + content, x.read(), LIMIT);
            CHECKS.counts("61 and " + content, x, place, 61, 61, LIMIT);
        }
    }

    private static void moreThan60HandlesDeeper() {
        CHECKS.by("(A READ deeper than 8, or with more than 60 HANDLES: LIMIT at its beginning, before it needs a byte.)");
        String within = Hex.untilRest("X", 0, 2) + Hex.NULL + "78" + Hex.NULL;
        CHECKS.same("60 deeper", Readers.behindTexts(59, within).read(), NULL);
        CHECKS.same("61 deeper", Readers.behindTexts(60, within).read(), LIMIT);
        String needsNoByte = Hex.untilFlags("X", 0) + "02" + "0001" + Hex.field('L', "a");
        CHECKS.same("60 deeper and no byte", Readers.behindTexts(59, needsNoByte).read(), END);
        CHECKS.same("61 deeper and no byte", Readers.behindTexts(60, needsNoByte).read(), LIMIT);
    }

    private static void entriesBeyond60() {
        CHECKS.by("(A READ deeper than 8, or with more than 60 HANDLES: LIMIT at its beginning, before it needs a byte.)");
        GraphReader x = Readers.behindTexts(60, Hex.tower(8, Hex.NULL), Hex.NULL);
        CHECKS.same("eight entries more in one read", x.read(), NULL);
        CHECKS.same("HANDLES", x.count(1), 68);
        CHECKS.same("but no read behind them", x.read(), LIMIT);
        GraphReader y = reader(8, 60, MOST, MOST);
        Readers.behindTexts(y, 59, "73" + A);
        CHECKS.same("an instance's own entry is the 61st", y.read(), 59);
        CHECKS.same("HANDLES", y.count(1), 61);
    }
}
