/** Promise 7, instances: their slots, data, rest and extra, and records. */
public final class ReadInstanceTest {
    private static final Checks CHECKS = new Checks();
    private static final int NULL = GraphReader.NULL;
    private static final int BAD_CLASS = GraphReader.BAD_CLASS;
    private static final int BAD_OBJECT = GraphReader.BAD_OBJECT;

    public static void main(String[] args) {
        kindsOfClasses();
        valuesAtFirst();
        primitives();
        objectsAndRings();
        intsFields();
        droppedFields();
        classesOutsideTheChain();
        topmostFirst();
        manyAboveOneAnother();
        fieldsAddedBehindTheDescriptor();
        rest();
        extra();
        records();
        CHECKS.end();
    }

    private static void kindsOfClasses() {
        int[] answers = {BAD_CLASS, 0, 0, BAD_CLASS, 0};
        for (int kind = Readers.PLAIN; kind <= Readers.RECORD; kind++) {
            GraphReader x = Readers.with(kind);
            Hex.open(x, "73" + Hex.desc("A", 0, 2, Hex.NULL));
            CHECKS.same("an instance of kind " + kind, x.read(), answers[kind]);
            CHECKS.same("HANDLES", x.count(1), answers[kind] == 0 ? 2 : 0);
        }
        CHECKS.fault("of a constant, before UNKNOWN", BAD_CLASS, Readers.with(), "73" + Hex.desc("A", 0, 0x12, Hex.NULL));
        CHECKS.fault("of a constant", BAD_CLASS, Readers.with(Readers.CONSTANT), "73" + Hex.desc("A", 0, 0x12, Hex.NULL));
        CHECKS.fault("of an array's name", GraphReader.UNKNOWN, Readers.with(), "73" + Hex.desc("[I", 0, 2, Hex.NULL));
    }

    private static void valuesAtFirst() {
        int[] plain = {7, 7, 7, 7, 7, 1, NULL, NULL};
        int[] others = {0, 0, 0, 0, 0, 0, NULL, NULL};
        for (int type = 0; type < 8; type++) {
            GraphReader x = Readers.with(Readers.PLAIN);
            x.define(1, Readers.PLAIN, 0, 0);
            x.define(2, Readers.SERIAL, 1, 0);
            x.define(3, Readers.CUSTOM, 2, 0);
            for (int number = 0; number < 4; number++) {
                x.field(number, 0, type);
            }
            CHECKS.reads("an instance", 0, x, "73" + Hex.desc("D", 0, 2, Hex.NULL));
            CHECKS.same("SLOTS", x.object(0, 2), 4);
            for (int slot = 0; slot < 4; slot++) {
                CHECKS.same("type " + type + ", slot " + slot, x.value(0, slot), slot < 2 ? plain[type] : others[type]);
            }
            GraphReader y = Readers.with(Readers.RECORD);
            y.field(0, 0, type);
            CHECKS.reads("a record", 0, y, "73" + Hex.desc("A", 0, 2, Hex.NULL));
            CHECKS.same("a record's type " + type, y.value(0, 0), others[type]);
        }
    }

    private static void primitives() {
        primitive(0, "00", 0);
        primitive(0, "7F", 127);
        primitive(0, "80", -128);
        primitive(0, "FF", -1);
        primitive(1, "0041", 65);
        primitive(1, "FFFF", 65535);
        primitive(2, "01020304", 0x01020304);
        primitive(2, "80000000", Integer.MIN_VALUE);
        primitive(2, "FFFFFFFF", -1);
        primitive(3, "0102030405060708", 0x0102030405060708L);
        primitive(3, "8000000000000000", Long.MIN_VALUE);
        primitive(3, "FFFFFFFFFFFFFFFE", -2);
        primitive(4, "7FFF", 32767);
        primitive(4, "8000", -32768);
        primitive(5, "00", 0);
        primitive(5, "01", 1);
        primitive(5, "02", 1);
        primitive(5, "80", 1);
        primitive(5, "FF", 1);
    }

    private static void primitive(int type, String bytes, long want) {
        String instance = "73" + Hex.desc("A", 0, 2, Hex.NULL, Hex.field("BCIJSZ".charAt(type), "c")) + bytes;
        GraphReader x = Readers.with(Readers.SERIAL);
        x.field(0, 2, type);
        CHECKS.reads("type " + type, 0, x, instance);
        CHECKS.same("type " + type + " of " + bytes, x.value(0, 0), want);
        GraphReader y = Readers.with(Readers.SERIAL);
        y.field(0, 2, type);
        CHECKS.fault("type " + type + " and a byte less", GraphReader.END, y,
                instance.substring(0, instance.length() - 2));
        CHECKS.reads("type " + type + " dropped", 0, Readers.with(Readers.SERIAL), instance);
    }

    private static void objectsAndRings() {
        GraphReader x = Readers.with(Readers.SERIAL);
        x.field(0, 0, 7);
        x.field(0, 1, 7);
        String descriptor = Hex.desc("A", 0, 2, Hex.NULL,
                Hex.field('L', "a", Hex.text("s")), Hex.field('L', "b", Hex.ref(1)));
        Hex.open(x, "73" + descriptor + "73" + Hex.ref(0) + Hex.ref(2) + Hex.ref(3) + Hex.ref(3), Hex.ref(3));
        CHECKS.same("an instance", x.read(), 1);
        CHECKS.same("the one within", x.value(1, 0), 2);
        CHECKS.same("shared", x.value(1, 1), 2);
        CHECKS.same("a ring of two", x.value(2, 0), 1);
        CHECKS.same("a ring of one", x.value(2, 1), 2);
        CHECKS.same("a reference from outside", x.read(), 2);
        CHECKS.same("HANDLES", x.count(1), 4);
        CHECKS.same("HEAP", x.count(2), 3);
    }

    private static void intsFields() {
        String descriptor = Hex.desc("A", 0, 2, Hex.NULL, Hex.field('[', "a", Hex.text("s")));
        String[] contents = {Hex.NULL, Hex.ints(4), Hex.refs(), Hex.text("a"), Hex.ref(1), Hex.ref(2), Hex.NULL};
        int[] ours = {1, 1, BAD_OBJECT, BAD_OBJECT, BAD_OBJECT, BAD_OBJECT, 1};
        for (int k = 0; k < contents.length; k++) {
            GraphReader x = Readers.with(Readers.SERIAL);
            x.field(0, 0, 6);
            Hex.open(x, "73" + descriptor + contents[k]);
            CHECKS.same("a value of type 6, " + k, x.read(), ours[k]);
            GraphReader y = Readers.with(Readers.SERIAL);
            y.field(0, 0, 7);
            CHECKS.reads("dropped by its type, " + k, 1, y, "73" + descriptor + contents[k]);
            CHECKS.same("the value at first, " + k, y.value(1, 0), NULL);
            CHECKS.reads("dropped by its name, " + k, 1, Readers.with(Readers.SERIAL), "73" + descriptor + contents[k]);
        }
        GraphReader x = Readers.with(Readers.SERIAL);
        x.field(0, 0, 6);
        x.field(0, 1, 2);
        CHECKS.fault("a wrong value before the end", BAD_OBJECT, x, "73" + Hex.desc("A", 0, 2, Hex.NULL,
                Hex.field('[', "a", Hex.text("s")), Hex.field('I', "b")) + Hex.text("a"));
        GraphReader y = Readers.with(Readers.SERIAL);
        y.field(0, 0, 7);
        CHECKS.reads("any object for type 7", 1, y,
                "73" + Hex.desc("A", 0, 2, Hex.NULL, Hex.field('L', "a", Hex.text("s"))) + Hex.ints(4));
        CHECKS.same("the INTS", y.value(1, 0), 2);
    }

    private static void droppedFields() {
        GraphReader x = Readers.with(Readers.SERIAL);
        x.field(0, 1, 2);
        x.field(0, 2, 7);
        CHECKS.reads("fields that are not ours", 1, x, "73" + Hex.desc("A", 0, 2, Hex.NULL,
                Hex.field('J', "a"), Hex.field('I', "b"), Hex.field('L', "cc", Hex.text("s")),
                Hex.field('[', "c", Hex.ref(1)), Hex.field('I', "B"), Hex.field('L', "{", Hex.ref(1)))
                + Hex.i8(-1) + Hex.u4(5) + Hex.text("x") + Hex.ints() + Hex.u4(6) + Hex.ref(1));
        CHECKS.same("b", x.value(1, 0), 5);
        CHECKS.same("c", x.value(1, 1), NULL);
        CHECKS.same("dropped objects are there", x.count(2), 4);
        GraphReader y = Readers.with(Readers.SERIAL);
        y.field(0, 0, 2);
        CHECKS.reads("a field told twice", 0, y, "73" + Hex.desc("A", 0, 2, Hex.NULL,
                Hex.field('I', "a"), Hex.field('I', "a")) + Hex.u4(1) + Hex.u4(2));
        CHECKS.same("the later value", y.value(0, 0), 2);
    }

    private static void classesOutsideTheChain() {
        GraphReader x = Readers.with(Readers.SERIAL, Readers.CUSTOM);
        x.field(0, 0, 2);
        x.field(1, 0, 2);
        CHECKS.reads("a class above that ours does not have", 0, x,
                "73" + Hex.desc("A", 0, 2, Hex.desc("B", 0, 3, Hex.NULL, Hex.field('I', "a")), Hex.field('I', "a"))
                        + Hex.u4(8) + Hex.block("00000001") + "78" + Hex.u4(9));
        CHECKS.same("SLOTS", x.object(0, 2), 1);
        CHECKS.same("its own", x.value(0, 0), 9);
        CHECKS.same("no EXTRA", x.object(0, 3), 0);
        GraphReader y = Readers.with(Readers.PLAIN);
        y.define(1, Readers.SERIAL, 0, 0);
        y.field(0, 0, 2);
        y.field(0, 1, 2);
        CHECKS.reads("a PLAIN class above, told by the stream", 0, y,
                "73" + Hex.desc("B", 0, 2, Hex.desc("A", 0, 2, Hex.NULL, Hex.field('I', "a"))) + Hex.u4(8));
        CHECKS.same("what the stream gives", y.value(0, 0), 8);
        CHECKS.same("what it does not give", y.value(0, 1), 7);
        GraphReader z = Readers.with(Readers.SERIAL);
        z.define(1, Readers.SERIAL, 0, 0);
        z.field(1, 0, 2);
        CHECKS.reads("a class below is not in the chain", 0, z,
                "73" + Hex.desc("A", 0, 2, Hex.desc("B", 0, 2, Hex.NULL, Hex.field('I', "a"))) + Hex.u4(8));
        CHECKS.same("no SLOTS", z.object(0, 2), 0);
        CHECKS.reads("a class above that is unknown", 0, Readers.with(Readers.SERIAL),
                "73" + Hex.desc("A", 0, 2, Hex.desc("F", 0, 2, Hex.NULL, Hex.field('S', "a"))) + "0008");
    }

    private static void topmostFirst() {
        GraphReader x = Readers.with(Readers.SERIAL);
        x.define(1, Readers.SERIAL, 0, 0);
        x.define(2, Readers.SERIAL, 1, 0);
        for (int number = 0; number < 3; number++) {
            x.field(number, 0, 0);
        }
        String field = Hex.field('B', "a");
        CHECKS.reads("three above one another", 0, x, "73" + Hex.desc("C", 0, 2,
                Hex.desc("B", 0, 2, Hex.desc("A", 0, 2, Hex.NULL, field), field), field) + "010203");
        for (int slot = 0; slot < 3; slot++) {
            CHECKS.same("slot " + slot, x.value(0, slot), slot + 1);
        }
        GraphReader y = Readers.with(Readers.SERIAL);
        y.field(0, 0, 0);
        CHECKS.reads("a class above itself", 0, y,
                "73" + Hex.desc("A", 0, 2, Hex.desc("A", 0, 2, Hex.NULL, field), field) + "0102");
        CHECKS.same("the lowest is last", y.value(0, 0), 2);
    }

    private static void manyAboveOneAnother() {
        GraphReader x = Readers.with(Readers.SERIAL);
        x.field(0, 0, 0);
        StringBuilder hex = new StringBuilder(Hex.desc("A", 0, 2, Hex.NULL, Hex.field('B', "a")));
        for (int k = 0; k < 20; k++) {
            hex.append(Hex.desc("A", 0, 2, Hex.ref(k), Hex.field('B', "a")));
        }
        hex.append("73" + Hex.ref(20));
        for (int k = 1; k <= 21; k++) {
            hex.append(Hex.u1(k));
        }
        Hex.open(x, hex.toString());
        for (int k = 0; k < 21; k++) {
            CHECKS.same("a descriptor", x.read(), NULL);
        }
        CHECKS.same("an instance with 21 descriptors", x.read(), 0);
        CHECKS.same("the last byte", x.value(0, 0), 21);
        CHECKS.same("PLACE", x.count(0), x.count(4));
    }

    private static void fieldsAddedBehindTheDescriptor() {
        GraphReader x = Readers.with(Readers.SERIAL);
        Hex.open(x, Hex.desc("A", 0, 2, Hex.NULL, Hex.field('I', "a"), Hex.field('I', "b")),
                "73" + Hex.ref(0) + Hex.u4(4) + Hex.u4(5));
        CHECKS.same("a descriptor", x.read(), NULL);
        x.field(0, 0, 2);
        x.field(0, 1, 3);
        CHECKS.same("an instance", x.read(), 0);
        CHECKS.same("a field added since", x.value(0, 0), 4);
        CHECKS.same("a field of another type added since", x.value(0, 1), 0);
    }

    private static void rest() {
        GraphReader x = Readers.with(Readers.SERIAL);
        x.field(0, 0, 0);
        CHECKS.reads("a rest", 0, x, "73" + Hex.desc("A", 0, 3, Hex.NULL, Hex.field('B', "a")) + "05"
                + Hex.block("787878787878") + Hex.NULL + Hex.text("x") + Hex.ref(1) + Hex.longBlock("78") + "78");
        CHECKS.same("a", x.value(0, 0), 5);
        CHECKS.same("no EXTRA of a SERIAL class", x.object(0, 3), 0);
        CHECKS.same("the text in the rest", x.object(1, 0), 1);
        String instance = "73" + Hex.desc("A", 0, 3, Hex.NULL);
        CHECKS.fault("no rest", GraphReader.END, Readers.with(Readers.SERIAL), instance);
        CHECKS.fault("a rest without an end", GraphReader.END, Readers.with(Readers.SERIAL), instance + Hex.block(""));
        CHECKS.fault("a block without a length", GraphReader.END, Readers.with(Readers.SERIAL), instance + "77");
        CHECKS.fault("a long block below 0", GraphReader.CORRUPT, Readers.with(Readers.SERIAL), instance + "7A80000000");
        CHECKS.fault("a reset", GraphReader.CORRUPT, Readers.with(Readers.SERIAL), instance + "7978");
        CHECKS.fault("a byte that is no content", GraphReader.CORRUPT, Readers.with(Readers.SERIAL), instance + "00");
        GraphReader y = Readers.with(Readers.SERIAL);
        y.define(1, Readers.SERIAL, 0, 0);
        y.field(1, 0, 0);
        CHECKS.reads("the rest of the class above", 0, y, "73" + Hex.desc("B", 0, 2,
                Hex.desc("A", 0, 3, Hex.NULL), Hex.field('B', "a")) + Hex.block("0102") + "78" + "09");
        CHECKS.same("what stands behind it", y.value(0, 0), 9);
    }

    private static void extra() {
        String instance = "73" + Hex.desc("A", 0, 3, Hex.NULL);
        String[] rests = {"78", Hex.block("") + "78", Hex.block("010203") + "78", Hex.block("01020304") + "78",
            Hex.block("FFFFFFFE05") + "78", Hex.longBlock("01020304") + "78", Hex.NULL + Hex.block("01020304") + "78",
            Hex.block("") + Hex.block("01020304") + "78", Hex.block("01020304") + Hex.block("05060708") + "78",
            Hex.block("00".repeat(3) + "09" + "11".repeat(251)) + "78"};
        int[] extras = {0, 0, 0, 0x01020304, -2, 0, 0, 0, 0x01020304, 9};
        for (int k = 0; k < rests.length; k++) {
            GraphReader x = Readers.with(Readers.CUSTOM);
            CHECKS.reads("a rest, " + k, 0, x, instance + rests[k]);
            CHECKS.same("the EXTRA, " + k, x.object(0, 3), extras[k]);
        }
        CHECKS.fault("a block that ends within the EXTRA", GraphReader.END, Readers.with(Readers.CUSTOM), instance + "7704010203");
        CHECKS.fault("a block that ends behind the EXTRA", GraphReader.END, Readers.with(Readers.CUSTOM), instance + "770501020304");
        CHECKS.fault("a block without a length", GraphReader.END, Readers.with(Readers.CUSTOM), instance + "77");
        CHECKS.fault("nothing", GraphReader.END, Readers.with(Readers.CUSTOM), instance);
        for (int missing = 0; missing < 6; missing++) {
            String head = Hex.text("a".repeat(675 - missing)) + instance + "770400000000".substring(0, 2 * missing);
            GraphReader full = Readers.with(Readers.CUSTOM);
            Hex.open(full, head);
            full.read();
            CHECKS.same("700 bytes", full.count(4), 700);
            CHECKS.same("a rest that ends at byte 700", full.read(), GraphReader.END);
        }
        GraphReader without = Readers.with(Readers.CUSTOM);
        Hex.open(without, "73" + Hex.desc("A", 0, 2, Hex.NULL) + Hex.block("01020304"));
        CHECKS.same("an instance without a rest", without.read(), 0);
        CHECKS.same("no EXTRA without a rest", without.object(0, 3), 0);
        CHECKS.same("the block is left", without.passBlock(), 4);
        GraphReader x = Readers.with(Readers.CUSTOM);
        x.define(1, Readers.CUSTOM, 0, 0);
        String both = "73" + Hex.desc("B", 0, 3, Hex.desc("A", 0, 3, Hex.NULL));
        CHECKS.reads("two that are CUSTOM", 0, x, both + Hex.block("00000001") + "78" + Hex.block("00000002") + "78");
        CHECKS.same("the lower one's EXTRA", x.object(0, 3), 2);
        GraphReader y = Readers.with(Readers.CUSTOM);
        y.define(1, Readers.CUSTOM, 0, 0);
        CHECKS.reads("the upper one's alone", 0, y, both + Hex.block("00000001") + "78" + "78");
        CHECKS.same("the upper one's EXTRA", y.object(0, 3), 1);
        GraphReader z = Readers.with(Readers.CUSTOM, Readers.CUSTOM);
        CHECKS.reads("one that is not in the chain", 0, z, both + Hex.block("00000001") + "78" + "78");
        CHECKS.same("no EXTRA", z.object(0, 3), 0);
    }

    private static void records() {
        String descriptor = Hex.desc("A", 0, 2, Hex.NULL, Hex.field('I', "a"), Hex.field('L', "b", Hex.text("s")));
        GraphReader x = Readers.with(Readers.RECORD);
        x.field(0, 0, 2);
        x.field(0, 1, 7);
        Hex.open(x, "73" + descriptor + Hex.u4(0) + Hex.refs(Hex.ref(2)), Hex.ref(2));
        CHECKS.same("a record", x.read(), 1);
        CHECKS.same("objects are numbered as they are made", x.value(1, 1), 2);
        CHECKS.same("a record is NULL until all is read", x.value(2, 0), NULL);
        CHECKS.same("a record by its handle", x.read(), 1);
        int[] first = {-1, Integer.MIN_VALUE, 0, 1};
        for (int number : first) {
            GraphReader y = Readers.with(Readers.RECORD);
            y.field(0, 0, 2);
            Hex.open(y, "73" + descriptor + Hex.u4(number) + Hex.NULL);
            CHECKS.same("a record of " + number, y.read(), number < 0 ? BAD_OBJECT : 1);
        }
        recordOf(0, "80", BAD_OBJECT);
        recordOf(1, "8000", 0);
        recordOf(3, "8000000000000000", BAD_OBJECT);
        recordOf(4, "FFFF", BAD_OBJECT);
        recordOf(5, "FF", 0);
        GraphReader second = Readers.with(Readers.RECORD);
        second.field(0, 1, 7);
        second.field(0, 0, 2);
        CHECKS.reads("the second FIELD may be below 0", 1, second, "73" + descriptor + Hex.u4(-1) + Hex.NULL);
        CHECKS.same("a first FIELD that is NULL", second.value(1, 0), NULL);
        CHECKS.same("the second FIELD", second.value(1, 1), -1);
        CHECKS.reads("a record without FIELDS", 1, Readers.with(Readers.RECORD), "73" + descriptor + Hex.u4(-1) + Hex.NULL);
        GraphReader last = Readers.with(Readers.RECORD);
        last.field(0, 0, 2);
        CHECKS.fault("only when all is read", GraphReader.CORRUPT, last, "73" + descriptor + Hex.u4(-1) + "00");
        GraphReader serial = Readers.with(Readers.SERIAL);
        serial.field(0, 0, 2);
        CHECKS.reads("no such check for others", 1, serial, "73" + descriptor + Hex.u4(-1) + Hex.NULL);
    }

    private static void recordOf(int type, String bytes, int want) {
        GraphReader x = Readers.with(Readers.RECORD);
        x.field(0, 0, type);
        Hex.open(x, "73" + Hex.desc("A", 0, 2, Hex.NULL, Hex.field("BCIJSZ".charAt(type), "a")) + bytes);
        CHECKS.same("a record of type " + type, x.read(), want);
    }
}
