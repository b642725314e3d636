/** Promise 7: what a fault leaves as it was, and how long it lasts. */
public final class FaultsTest {
    private static final Checks CHECKS = new Checks();
    private static final int NULL = GraphReader.NULL;
    private static final int OPTIONAL = GraphReader.OPTIONAL;
    // A part of a stream stands for each fault but OPTIONAL.
    private static final int[] FAULTS = {GraphReader.END, GraphReader.CORRUPT, GraphReader.BAD_CLASS,
        GraphReader.BAD_OBJECT, GraphReader.LIMIT, GraphReader.UNKNOWN, GraphReader.ABORTED};
    private static final String[] PARTS = {"74", "00", Hex.desc("X", 0, 6, Hex.NULL), "75" + Hex.desc("[I") + Hex.u4(-1),
        "75" + Hex.desc("[I") + Hex.u4(21), "73" + Hex.desc("X"), "7B"};

    public static void main(String[] args) {
        allIsAsBefore();
        allIsAsBeforeAReset();
        madeObjectsAreUndone();
        madeConstantsAreUndone();
        everyFaultLasts();
        untilBegin();
        atOnce();
        optionalDoesNotLast();
        numberedAsTheyAreMade();
        CHECKS.end();
    }

    /** Two texts and a descriptor stand before the fault, so that no count is 0. */
    private static GraphReader before(String part) {
        GraphReader x = Readers.opened(Hex.text("a"), Hex.text("b"), Hex.desc("Y"), part);
        CHECKS.readsInTurn(x, 0, 1, NULL);
        return x;
    }

    private static void allIsAsBefore() {
        CHECKS.by("A READ from outside that ends in a fault leaves HEAP, HANDLES and PLACE as they were before it");
        for (int k = 0; k < FAULTS.length; k++) {
            GraphReader x = before(Hex.refs(Hex.text("c"), Hex.ints(1), PARTS[k]));
            int place = x.count(0);
            CHECKS.same("fault " + k, x.read(), FAULTS[k]);
            CHECKS.counts("fault " + k, x, place, 3, 2, FAULTS[k]);
            CHECKS.values("a text of before", x, 1, 'b');
            CHECKS.same("no object 2", x.object(2, 0), GraphReader.REFUSED);
        }
    }

    private static void allIsAsBeforeAReset() {
        CHECKS.by("A READ from outside that ends in a fault leaves HEAP, HANDLES and PLACE as they were before it");
        for (int k = 0; k < FAULTS.length; k++) {
            GraphReader x = before("7979" + PARTS[k]);
            int place = x.count(0);
            CHECKS.same("fault " + k, x.read(), FAULTS[k]);
            CHECKS.counts("fault " + k, x, place, 3, 2, FAULTS[k]);
        }
        GraphReader y = before("7978");
        int place = y.count(0);
        CHECKS.same("OPTIONAL", y.read(), OPTIONAL);
        CHECKS.counts("OPTIONAL", y, place, 3, 2, 0);
        CHECKS.same("PLACE is at the reset", y.passBlock(), GraphReader.REFUSED);
    }

    private static void madeObjectsAreUndone() {
        CHECKS.by("A READ from outside that ends in a fault leaves HEAP, HANDLES and PLACE as they were before it");
        GraphReader x = Readers.withFields(Readers.SERIAL, 7);
        Hex.open(x, Hex.text("t"), "73" + Hex.desc("A", 0, 2, Hex.NULL, Hex.field('L', "a", Hex.text("s"))) + Hex.ints(1)
                + "73" + Hex.ref(1) + "00");
        CHECKS.readsInTurn(x, 0, 2);
        int place = x.count(0);
        CHECKS.same("a fault in a field", x.read(), GraphReader.CORRUPT);
        CHECKS.counts("as before", x, place, 6, 4, GraphReader.CORRUPT);
        CHECKS.values("the instance of before", x, 2, 3);
    }

    private static void madeConstantsAreUndone() {
        CHECKS.by("the object in the HEAP with this class and name, if there is one, else a new one.");
        GraphReader x = Readers.with(Readers.CONSTANT);
        x.constant(0, 0, true);
        String constant = "7E" + Hex.constantDesc("A") + Hex.text("a");
        Hex.open(x, Hex.refs(constant, "00"));
        CHECKS.same("a fault behind a constant", x.read(), GraphReader.CORRUPT);
        CHECKS.same("HEAP", x.count(2), 0);
        x.begin();
        CHECKS.same("the fault again", x.read(), GraphReader.CORRUPT);
        GraphReader y = Readers.with(Readers.CONSTANT);
        y.constant(0, 0, true);
        Hex.open(y, constant);
        CHECKS.same("a constant", y.read(), 1);
        y.begin();
        CHECKS.same("a new one", y.read(), 1);
        CHECKS.same("HEAP", y.count(2), 2);
    }

    private static void everyFaultLasts() {
        CHECKS.by("the fault lasts (but OPTIONAL)");
        for (int k = 0; k < FAULTS.length; k++) {
            GraphReader x = Readers.opened(PARTS[k]);
            for (int turn = 0; turn < 3; turn++) {
                CHECKS.same("read", x.read(), FAULTS[k]);
                CHECKS.same("what lasts", x.count(3), FAULTS[k]);
                CHECKS.same("passBlock", x.passBlock(), FAULTS[k]);
            }
        }
    }

    private static void untilBegin() {
        CHECKS.by("all later READS end in it at once, until begin.");
        for (int k = 0; k < FAULTS.length; k++) {
            GraphReader x = Readers.opened(Hex.NULL, PARTS[k]);
            CHECKS.readsInTurn(x, NULL, FAULTS[k]);
            CHECKS.same("begin", x.begin(), 4);
            CHECKS.same("what lasts", x.count(3), 0);
            CHECKS.readsInTurn(x, NULL, FAULTS[k]);
        }
    }

    private static void atOnce() {
        CHECKS.by("all later READS end in it at once, until begin.");
        GraphReader x = Readers.opened("73" + Hex.desc("A"));
        CHECKS.same("no class", x.read(), GraphReader.UNKNOWN);
        x.define(0, Readers.SERIAL, -1, 0);
        CHECKS.same("a class that has come", x.read(), GraphReader.UNKNOWN);
        x.begin();
        CHECKS.same("begun again", x.read(), 0);
        GraphReader y = Readers.behindTexts(61, "");
        CHECKS.readsInTurn(y, GraphReader.LIMIT, GraphReader.LIMIT);
    }

    private static void optionalDoesNotLast() {
        CHECKS.by("the fault lasts (but OPTIONAL)");
        for (String part : new String[] {Hex.block("00"), Hex.longBlock("00"), "78"}) {
            GraphReader x = before(part);
            long seen = Readers.seen(x);
            CHECKS.readsInTurn(x, OPTIONAL, OPTIONAL);
            CHECKS.same("what lasts", x.count(3), 0);
            CHECKS.same("all that can be seen", Readers.seen(x), seen);
        }
        GraphReader y = Readers.opened(Hex.block("00"), Hex.text("a"));
        CHECKS.same("a read at a block", y.read(), OPTIONAL);
        CHECKS.same("the block", y.passBlock(), 1);
        CHECKS.same("a read behind it", y.read(), 0);
    }

    private static void numberedAsTheyAreMade() {
        CHECKS.by("Objects are numbered as they are made.");
        GraphReader x = Readers.opened(Hex.refs(Hex.refs(Hex.text("a")), Hex.text("b")), Hex.text("c"));
        CHECKS.readsInTurn(x, 0, 4);
        CHECKS.values("the outer", x, 0, 1, 3);
        CHECKS.values("the inner", x, 1, 2);
    }
}
