/** Promise 7, instances: whether they are made, their slots, and records. */
public final class ReadInstanceTest {
    private static final Checks CHECKS = new Checks();
    private static final int NULL = GraphReader.NULL;
    private static final int BAD_CLASS = GraphReader.BAD_CLASS;
    private static final int BAD_OBJECT = GraphReader.BAD_OBJECT;
    private static final String RECORD_DESC =
            Hex.desc("A", 0, 2, Hex.NULL, Hex.field('I', "a"), Hex.field('L', "b", Hex.text("s")));

    public static void main(String[] args) {
        nullDescriptor();
        ofAConstant();
        localClassIsNone();
        kindOfTheLocalClass();
        anEntryOfItsOwn();
        extraAtFirst();
        ringsAndSharing();
        slotsTopmostFirst();
        asManySlotsAsThereCanBe();
        noSlots();
        slotsNotGivenByTheStream();
        recordIsNullUntilAllIsRead();
        recordIsTheInstanceThen();
        recordBelow0();
        recordsOfEveryPrimitiveType();
        recordWhoseFirstFieldIsNone();
        recordIsCheckedAtLast();
        othersAreNotChecked();
        CHECKS.end();
    }

    private static void nullDescriptor() {
        CHECKS.by("73: a DESCRIPTOR is read; NULL: CORRUPT.");
        CHECKS.fault("NULL", GraphReader.CORRUPT, Readers.with(Readers.SERIAL), "73" + Hex.NULL);
    }

    private static void ofAConstant() {
        CHECKS.by("It is of a CONSTANT: BAD_CLASS");
        CHECKS.fault("without a class, before UNKNOWN", BAD_CLASS, Readers.fresh(), "73" + Hex.constantDesc("A"));
        CHECKS.fault("with a class", BAD_CLASS, Readers.with(Readers.CONSTANT), "73" + Hex.constantDesc("A"));
    }

    private static void localClassIsNone() {
        CHECKS.by("its local class is none: UNKNOWN");
        for (String name : new String[] {"B", "G", "@", "a", "AA", "", "[I", Hex.OBJECTS}) {
            CHECKS.fault("an instance of " + name, GraphReader.UNKNOWN, Readers.with(Readers.SERIAL), "73" + Hex.desc(name));
        }
    }

    private static void kindOfTheLocalClass() {
        CHECKS.by("that is PLAIN or CONSTANT: BAD_CLASS.");
        CHECKS.fault("PLAIN", BAD_CLASS, Readers.with(Readers.PLAIN), "73" + Hex.desc("A"));
        CHECKS.reads("SERIAL", 0, Readers.with(Readers.SERIAL), "73" + Hex.desc("A"));
        CHECKS.reads("CUSTOM", 0, Readers.with(Readers.CUSTOM), "73" + Hex.desc("A"));
        CHECKS.fault("CONSTANT", BAD_CLASS, Readers.with(Readers.CONSTANT), "73" + Hex.desc("A"));
        CHECKS.reads("RECORD", 0, Readers.with(Readers.RECORD), "73" + Hex.desc("A"));
    }

    private static void anEntryOfItsOwn() {
        CHECKS.by("A new INSTANCE, an entry of its own");
        GraphReader x = Readers.with(Readers.SERIAL);
        Hex.open(x, "73" + Hex.desc("A"), "73" + Hex.ref(0), Hex.ref(1), Hex.ref(2));
        CHECKS.readsInTurn(x, 0, 1);
        CHECKS.same("HANDLES", x.count(1), 3);
        CHECKS.readsInTurn(x, 0, 1);
        CHECKS.same("sort", x.object(1, 0), 0);
        CHECKS.same("class", x.object(1, 1), 0);
    }

    private static void extraAtFirst() {
        CHECKS.by("each an INSTANCE of a local class with values of its SLOTS and an EXTRA (0 at first)");
        for (int kind : new int[] {Readers.SERIAL, Readers.CUSTOM, Readers.RECORD}) {
            GraphReader x = Readers.with(kind);
            CHECKS.reads("kind " + kind, 0, x, "73" + Hex.desc("A"));
            CHECKS.same("EXTRA of kind " + kind, x.object(0, 3), 0);
        }
    }

    private static void ringsAndSharing() {
        CHECKS.by("A new INSTANCE, an entry of its own");
        GraphReader x = Readers.withFields(Readers.SERIAL, 7, 7);
        String descriptor = Hex.desc("A", 0, 2, Hex.NULL,
                Hex.field('L', "a", Hex.text("s")), Hex.field('L', "b", Hex.ref(1)));
        Hex.open(x, "73" + descriptor + "73" + Hex.ref(0) + Hex.ref(2) + Hex.ref(3) + Hex.ref(3), Hex.ref(3));
        CHECKS.readsInTurn(x, 1, 2);
        CHECKS.values("the outer shares the inner", x, 1, 2, 2);
        CHECKS.values("rings of two and of one", x, 2, 1, 2);
        CHECKS.counts("in the end", x, x.count(4), 4, 3, 0);
    }

    private static void slotsTopmostFirst() {
        CHECKS.by("SLOTS of an object of a class: the FIELDS of the classes of its CHAIN, the topmost class's first, numbered from 0.");
        GraphReader x = Readers.with(Readers.SERIAL);
        x.define(5, Readers.SERIAL, 0, 0);
        x.field(5, 2, 2);
        x.field(0, 9, 2);
        x.field(5, 1, 2);
        x.field(0, 8, 2);
        String above = Hex.desc("A", 0, 2, Hex.NULL, Hex.field('I', "i"), Hex.field('I', "j"));
        String below = Hex.desc("F", 0, 2, above, Hex.field('I', "b"), Hex.field('I', "c"));
        CHECKS.reads("an instance", 0, x, "73" + below + Hex.u4(10) + Hex.u4(11) + Hex.u4(12) + Hex.u4(13));
        CHECKS.same("SLOTS", x.object(0, 2), 4);
        CHECKS.values("in the order of FIELDS", x, 0, 11, 10, 13, 12);
    }

    private static void asManySlotsAsThereCanBe() {
        CHECKS.by("SLOTS of an object of a class: the FIELDS of the classes of its CHAIN, the topmost class's first, numbered from 0.");
        GraphReader x = Readers.fresh();
        String descriptor = Hex.NULL;
        StringBuilder data = new StringBuilder();
        long[] wants = new long[24];
        for (int number = 0; number < 6; number++) {
            x.define(number, Readers.SERIAL, number - 1, 0);
            Readers.addFields(x, number, 0, 0, 0, 0);
            descriptor = Hex.desc(String.valueOf((char) ('A' + number)), 0, 2, descriptor, Hex.field('B', "a"),
                    Hex.field('B', "b"), Hex.field('B', "c"), Hex.field('B', "d"));
            for (int k = 4 * number; k < 4 * number + 4; k++) {
                data.append(Hex.u1(k + 1));
                wants[k] = k + 1;
            }
        }
        CHECKS.reads("an instance", 0, x, "73" + descriptor + data);
        CHECKS.same("SLOTS", x.object(0, 2), 24);
        CHECKS.values("all of them", x, 0, wants);
    }

    private static void noSlots() {
        CHECKS.by("SLOTS of an object of a class: the FIELDS of the classes of its CHAIN, the topmost class's first, numbered from 0.");
        GraphReader x = Readers.with(Readers.SERIAL);
        CHECKS.reads("an instance", 0, x, "73" + Hex.desc("A"));
        CHECKS.same("SLOTS", x.object(0, 2), 0);
        CHECKS.values("none", x, 0);
    }

    private static void slotsNotGivenByTheStream() {
        CHECKS.by("SLOTS of classes that are not SERIAL, CUSTOM or RECORD get 7 if PRIMITIVE (Z: 1), all others 0 or NULL.");
        int[] plain = {7, 7, 7, 7, 7, 1, NULL, NULL};
        int[] others = {0, 0, 0, 0, 0, 0, NULL, NULL};
        for (int type = 0; type < 8; type++) {
            GraphReader x = Readers.withFields(Readers.PLAIN, type);
            int[] kinds = {Readers.PLAIN, Readers.PLAIN, Readers.SERIAL, Readers.CUSTOM};
            for (int number = 1; number < 4; number++) {
                x.define(number, kinds[number], number - 1, 0);
                x.field(number, 0, type);
            }
            CHECKS.reads("an instance", 0, x, "73" + Hex.desc("D"));
            CHECKS.values("type " + type, x, 0, plain[type], plain[type], others[type], others[type]);
            GraphReader y = Readers.withFields(Readers.RECORD, type);
            CHECKS.reads("a record", 0, y, "73" + Hex.desc("A"));
            CHECKS.values("a record of type " + type, y, 0, others[type]);
        }
    }

    private static void recordIsNullUntilAllIsRead() {
        CHECKS.by("(for a RECORD: NULL, until all is read, then the INSTANCE)");
        GraphReader x = Readers.withFields(Readers.RECORD, 2, 7);
        CHECKS.reads("from its field", 1, x, "73" + RECORD_DESC + Hex.u4(0) + Hex.refs(Hex.ref(2)));
        CHECKS.values("objects are numbered as they are made", x, 1, 0, 2);
        CHECKS.values("the record's entry", x, 2, NULL);
        GraphReader y = Readers.with(Readers.RECORD);
        CHECKS.reads("from its rest", 0, y, "73" + Hex.desc("A", 0, 3, Hex.NULL) + Hex.refs(Hex.ref(1)) + "78");
        CHECKS.values("the record's entry", y, 1, NULL);
    }

    private static void recordIsTheInstanceThen() {
        CHECKS.by("(for a RECORD: NULL, until all is read, then the INSTANCE)");
        GraphReader x = Readers.withFields(Readers.RECORD, 2, 7);
        Hex.open(x, Hex.refs("73" + RECORD_DESC + Hex.u4(0) + Hex.NULL, Hex.ref(4)), Hex.ref(4));
        CHECKS.readsInTurn(x, 0, 2);
        CHECKS.values("from behind it in one read", x, 0, 2, 2);
    }

    private static int recordOf(int first) {
        GraphReader x = Readers.withFields(Readers.RECORD, 2);
        Hex.open(x, "73" + RECORD_DESC + Hex.u4(first) + Hex.NULL);
        return x.read();
    }

    private static void recordBelow0() {
        CHECKS.by("At last, for a RECORD: its first FIELD is PRIMITIVE and below 0: BAD_OBJECT.");
        CHECKS.same("-1", recordOf(-1), BAD_OBJECT);
        CHECKS.same("the lowest", recordOf(Integer.MIN_VALUE), BAD_OBJECT);
        CHECKS.same("0", recordOf(0), 1);
        CHECKS.same("1", recordOf(1), 1);
        CHECKS.same("the highest", recordOf(Integer.MAX_VALUE), 1);
    }

    private static void recordsOfEveryPrimitiveType() {
        CHECKS.by("At last, for a RECORD: its first FIELD is PRIMITIVE and below 0: BAD_OBJECT.");
        String[] bytes = {"FF", "FFFF", "FFFFFFFF", "FFFFFFFFFFFFFFFF", "FFFF", "FF"};
        int[] wants = {BAD_OBJECT, 0, BAD_OBJECT, BAD_OBJECT, BAD_OBJECT, 0};
        for (int type = 0; type < 6; type++) {
            GraphReader x = Readers.withFields(Readers.RECORD, type);
            Hex.open(x, "73" + Hex.desc("A", 0, 2, Hex.NULL, Hex.field("BCIJSZ".charAt(type), "a")) + bytes[type]);
            CHECKS.same("type " + type, x.read(), wants[type]);
        }
    }

    private static void recordWhoseFirstFieldIsNone() {
        CHECKS.by("At last, for a RECORD: its first FIELD is PRIMITIVE and below 0: BAD_OBJECT.");
        for (int type = 6; type < 8; type++) {
            GraphReader x = Readers.with(Readers.RECORD);
            x.field(0, 25, type);
            x.field(0, 0, 2);
            CHECKS.reads("the second FIELD may be below 0", 1, x, "73" + RECORD_DESC + Hex.u4(-1) + Hex.NULL);
            CHECKS.values("a first FIELD that is NULL", x, 1, NULL, -1);
        }
        CHECKS.reads("no FIELD", 1, Readers.with(Readers.RECORD), "73" + RECORD_DESC + Hex.u4(-1) + Hex.NULL);
    }

    private static void recordIsCheckedAtLast() {
        CHECKS.by("At last, for a RECORD: its first FIELD is PRIMITIVE and below 0: BAD_OBJECT.");
        GraphReader x = Readers.withFields(Readers.RECORD, 2);
        CHECKS.fault("a fault in a later field", GraphReader.CORRUPT, x, "73" + RECORD_DESC + Hex.u4(-1) + "00");
        GraphReader y = Readers.withFields(Readers.RECORD, 2);
        CHECKS.fault("a fault in the rest", GraphReader.END, y,
                "73" + Hex.desc("A", 0, 3, Hex.NULL, Hex.field('I', "a")) + Hex.u4(-1));
        GraphReader z = Readers.withFields(Readers.RECORD, 2);
        CHECKS.reads("told again, not below 0", 0, z, "73" + Hex.desc("A", 0, 2, Hex.NULL, Hex.field('I', "a"),
                Hex.field('I', "a")) + Hex.u4(-1) + Hex.u4(1));
    }

    private static void othersAreNotChecked() {
        CHECKS.by("At last, for a RECORD: its first FIELD is PRIMITIVE and below 0: BAD_OBJECT.");
        for (int kind : new int[] {Readers.SERIAL, Readers.CUSTOM}) {
            GraphReader x = Readers.withFields(kind, 2);
            CHECKS.reads("kind " + kind, 1, x, "73" + RECORD_DESC + Hex.u4(-1) + Hex.NULL);
        }
    }
}
