/** Promise 7, the data of a descriptor: its fields, in order, and which of them are taken. */
public final class DataTest {
    private static final Checks CHECKS = new Checks();
    private static final int NULL = GraphReader.NULL;
    private static final int BAD_OBJECT = GraphReader.BAD_OBJECT;
    private static final String SIGNS = "BCIJSZ";
    private static final String INTS_DESC = Hex.desc("A", 0, 2, Hex.NULL, Hex.field('[', "a", Hex.text("s")));

    public static void main(String[] args) {
        charactersAreNotBelow0();
        truthIs1ForAnyByte();
        othersHaveTheirSign();
        primitivesByTheirBytes();
        inOrder();
        othersByAReadOneDeeper();
        anotherNameIsDropped();
        anotherTypeIsDropped();
        toldTwice();
        classNotInTheChain();
        classBelowIsNotInTheChain();
        classIsUnknown();
        plainClassInTheChain();
        fieldsAddedBehindTheDescriptor();
        typeSix();
        typeSixIsCheckedInOrder();
        typeSixThatIsDropped();
        typeSeven();
        topmostFirst();
        manyAboveOneAnother();
        CHECKS.end();
    }

    private static void primitive(int type, String bytes, long want) {
        GraphReader x = Readers.withFields(Readers.SERIAL, type);
        CHECKS.reads("type " + type, 0, x,
                "73" + Hex.desc("A", 0, 2, Hex.NULL, Hex.field(SIGNS.charAt(type), "a")) + bytes);
        CHECKS.values("type " + type + " of " + bytes, x, 0, want);
    }

    private static void charactersAreNotBelow0() {
        CHECKS.by("C is not below 0, Z is 1 for any byte but 00, the others have their sign.");
        primitive(1, "0000", 0);
        primitive(1, "0041", 65);
        primitive(1, "7FFF", 32767);
        primitive(1, "8000", 32768);
        primitive(1, "FFFF", 65535);
    }

    private static void truthIs1ForAnyByte() {
        CHECKS.by("C is not below 0, Z is 1 for any byte but 00, the others have their sign.");
        for (int number = 0; number < 256; number++) {
            primitive(5, Hex.u1(number), number == 0 ? 0 : 1);
        }
    }

    private static void othersHaveTheirSign() {
        CHECKS.by("C is not below 0, Z is 1 for any byte but 00, the others have their sign.");
        for (int number = 0; number < 256; number++) {
            primitive(0, Hex.u1(number), (byte) number);
        }
        for (int number : new int[] {0, 1, Integer.MAX_VALUE, Integer.MIN_VALUE, -1}) {
            primitive(2, Hex.u4(number), number);
        }
        for (long number : new long[] {0, 1, 1L << 32, Long.MAX_VALUE, Long.MIN_VALUE, -1}) {
            primitive(3, Hex.i8(number), number);
        }
        for (int number : new int[] {0, 1, 32767, -32768, -1}) {
            primitive(4, Hex.u2(number), number);
        }
    }

    private static void primitivesByTheirBytes() {
        CHECKS.by("a type 0 B (1 byte), 1 C (2), 2 I (4), 3 J (8), 4 S (2), 5 Z (1), 6 INTS, 7 any object; 0 .. 5 are PRIMITIVE.");
        int[] sizes = {1, 2, 4, 8, 2, 1};
        for (int type = 0; type < 6; type++) {
            String instance = "73" + Hex.desc("A", 0, 2, Hex.NULL, Hex.field(SIGNS.charAt(type), "a"));
            CHECKS.fault("a byte less", GraphReader.END, Readers.withFields(Readers.SERIAL, type),
                    instance + "01".repeat(sizes[type] - 1));
            CHECKS.reads("its bytes", 0, Readers.withFields(Readers.SERIAL, type), instance + "01".repeat(sizes[type]));
            CHECKS.reads("its bytes, dropped", 0, Readers.with(Readers.SERIAL), instance + "01".repeat(sizes[type]));
        }
    }

    private static void inOrder() {
        CHECKS.by("for its fields in order, the PRIMITIVE ones by their bytes, the others by a READ one deeper");
        GraphReader x = Readers.withFields(Readers.SERIAL, 2, 7, 2, 7);
        String descriptor = Hex.desc("A", 0, 2, Hex.NULL, Hex.field('L', "d", Hex.text("s")), Hex.field('I', "c"),
                Hex.field('L', "b", Hex.ref(1)), Hex.field('I', "a"));
        CHECKS.reads("objects and primitives in turn", 1, x,
                "73" + descriptor + Hex.text("x") + Hex.u4(4) + Hex.text("y") + Hex.u4(5));
        CHECKS.values("the stream's order is not ours", x, 1, 5, 3, 4, 2);
    }

    private static void othersByAReadOneDeeper() {
        CHECKS.by("for its fields in order, the PRIMITIVE ones by their bytes, the others by a READ one deeper");
        String instance = "73" + Hex.desc("A", 0, 2, Hex.NULL, Hex.field('L', "a", Hex.text("s")));
        GraphReader x = Readers.withFields(Readers.SERIAL, 7);
        CHECKS.reads("NULL", 1, x, instance + Hex.NULL);
        CHECKS.values("NULL", x, 1, NULL);
        GraphReader y = Readers.withFields(Readers.SERIAL, 7);
        CHECKS.reads("a descriptor", 1, y, instance + Hex.desc("X"));
        CHECKS.values("a descriptor", y, 1, NULL);
        CHECKS.fault("an abort", GraphReader.ABORTED, Readers.withFields(Readers.SERIAL, 7), instance + "7B");
        CHECKS.fault("no byte", GraphReader.END, Readers.withFields(Readers.SERIAL, 7), instance);
    }

    private static void anotherNameIsDropped() {
        CHECKS.by("a field whose name and type one FIELD has in the DESCRIPTOR's local class gives that its value");
        for (String name : new String[] {"", "a", "bb", "B", "{", "`", "c", "z"}) {
            GraphReader x = Readers.with(Readers.SERIAL);
            x.field(0, 1, 2);
            CHECKS.reads("named " + name, 0, x, "73" + Hex.desc("A", 0, 2, Hex.NULL, Hex.field('I', name)) + Hex.u4(9));
            CHECKS.values("named " + name, x, 0, 0);
        }
        for (int name : new int[] {0, 1, 25}) {
            GraphReader x = Readers.with(Readers.SERIAL);
            x.field(0, name, 2);
            String letter = String.valueOf((char) ('a' + name));
            CHECKS.reads("named " + letter, 0, x, "73" + Hex.desc("A", 0, 2, Hex.NULL, Hex.field('I', letter)) + Hex.u4(9));
            CHECKS.values("named " + letter, x, 0, 9);
        }
    }

    private static void anotherTypeIsDropped() {
        CHECKS.by("(Type 6 is '[', 7 is 'L'.)");
        GraphReader x = Readers.withFields(Readers.SERIAL, 7, 6);
        CHECKS.reads("types 6 and 7", 1, x, "73" + Hex.desc("A", 0, 2, Hex.NULL,
                Hex.field('[', "a", Hex.text("s")), Hex.field('L', "b", Hex.ref(1))) + Hex.ints() + Hex.text("x"));
        CHECKS.values("both are dropped", x, 1, NULL, NULL);
        CHECKS.same("dropped objects are there", x.count(2), 4);
    }

    private static void toldTwice() {
        CHECKS.by("for its fields in order, the PRIMITIVE ones by their bytes, the others by a READ one deeper");
        GraphReader x = Readers.withFields(Readers.SERIAL, 2);
        CHECKS.reads("a field told twice", 0, x, "73" + Hex.desc("A", 0, 2, Hex.NULL,
                Hex.field('I', "a"), Hex.field('I', "a")) + Hex.u4(1) + Hex.u4(2));
        CHECKS.values("the later value", x, 0, 2);
    }

    private static void classNotInTheChain() {
        CHECKS.by("if that class is in the CHAIN of the INSTANCE's class");
        GraphReader x = Readers.with(Readers.SERIAL, Readers.SERIAL);
        x.field(0, 0, 2);
        x.field(1, 0, 2);
        String field = Hex.field('I', "a");
        CHECKS.reads("a class above that ours does not have", 0, x,
                "73" + Hex.desc("A", 0, 2, Hex.desc("B", 0, 2, Hex.NULL, field), field) + Hex.u4(8) + Hex.u4(9));
        CHECKS.values("its own alone", x, 0, 9);
    }

    private static void classBelowIsNotInTheChain() {
        CHECKS.by("The CHAIN of a class is itself, its SUPERCLASS, and so on.");
        GraphReader x = Readers.withFields(Readers.SERIAL, 2);
        x.define(1, Readers.SERIAL, 0, 0);
        x.field(1, 1, 2);
        CHECKS.reads("a class below, told above", 0, x,
                "73" + Hex.desc("A", 0, 2, Hex.desc("B", 0, 2, Hex.NULL, Hex.field('I', "b"))) + Hex.u4(8));
        CHECKS.values("no SLOT of it", x, 0, 0);
        GraphReader y = Readers.withFields(Readers.SERIAL, 2);
        y.define(1, Readers.SERIAL, 0, 0);
        y.define(2, Readers.SERIAL, 1, 0);
        CHECKS.reads("two classes above", 0, y,
                "73" + Hex.desc("C", 0, 2, Hex.desc("A", 0, 2, Hex.NULL, Hex.field('I', "a"))) + Hex.u4(8));
        CHECKS.values("its SLOT", y, 0, 8);
    }

    private static void classIsUnknown() {
        CHECKS.by("others are dropped.");
        GraphReader x = Readers.withFields(Readers.SERIAL, 4);
        CHECKS.reads("a class above that is not there", 0, x,
                "73" + Hex.desc("A", 0, 2, Hex.desc("F", 0, 2, Hex.NULL, Hex.field('S', "a"))) + "0008");
        CHECKS.values("not given", x, 0, 0);
    }

    private static void plainClassInTheChain() {
        CHECKS.by("if that class is in the CHAIN of the INSTANCE's class");
        GraphReader x = Readers.withFields(Readers.PLAIN, 2, 2);
        x.define(1, Readers.SERIAL, 0, 0);
        CHECKS.reads("a PLAIN class, told by the stream", 0, x,
                "73" + Hex.desc("B", 0, 2, Hex.desc("A", 5, 2, Hex.NULL, Hex.field('I', "a"))) + Hex.u4(8));
        CHECKS.values("what the stream gives and what it does not", x, 0, 8, 7);
    }

    private static void fieldsAddedBehindTheDescriptor() {
        CHECKS.by("a field whose name and type one FIELD has in the DESCRIPTOR's local class gives that its value");
        GraphReader x = Readers.with(Readers.SERIAL);
        Hex.open(x, Hex.desc("A", 0, 2, Hex.NULL, Hex.field('I', "a"), Hex.field('I', "b")),
                "73" + Hex.ref(0) + Hex.u4(4) + Hex.u4(5));
        CHECKS.same("a descriptor", x.read(), NULL);
        Readers.addFields(x, 0, 2, 3);
        CHECKS.same("an instance", x.read(), 0);
        CHECKS.values("of its type, and of another", x, 0, 4, 0);
    }

    private static void typeSix() {
        CHECKS.by("(A value for a FIELD of type 6 that is neither NULL nor INTS: BAD_OBJECT.)");
        String[] contents = {Hex.NULL, Hex.ints(), Hex.ints(4), Hex.desc("X"), Hex.refs(), Hex.text("a"), Hex.ref(1),
            Hex.ref(2), "73" + Hex.desc("B"), "7E" + Hex.constantDesc("C") + Hex.text("a")};
        for (int k = 0; k < contents.length; k++) {
            GraphReader x = Readers.with(Readers.SERIAL, Readers.SERIAL, Readers.CONSTANT);
            x.field(0, 0, 6);
            x.constant(2, 0, true);
            Hex.open(x, "73" + INTS_DESC + contents[k]);
            CHECKS.same("content " + k, x.read(), k < 4 ? 1 : BAD_OBJECT);
            CHECKS.same("its value " + k, x.value(1, 0), k == 0 || k == 3 ? NULL : k < 3 ? 2 : GraphReader.NONE);
        }
    }

    private static void typeSixIsCheckedInOrder() {
        CHECKS.by("(A value for a FIELD of type 6 that is neither NULL nor INTS: BAD_OBJECT.)");
        GraphReader x = Readers.withFields(Readers.SERIAL, 6, 2);
        CHECKS.fault("before a later field ends", BAD_OBJECT, x, "73" + Hex.desc("A", 0, 2, Hex.NULL,
                Hex.field('[', "a", Hex.text("s")), Hex.field('I', "b")) + Hex.text("a"));
        GraphReader y = Readers.withFields(Readers.SERIAL, 6);
        Hex.open(y, Hex.ints(5), "73" + INTS_DESC + Hex.ref(1));
        CHECKS.readsInTurn(y, 0, 2);
        CHECKS.values("INTS by a handle", y, 2, 0);
    }

    private static void typeSixThatIsDropped() {
        CHECKS.by("others are dropped.");
        for (String content : new String[] {Hex.refs(), Hex.text("a"), Hex.ref(1)}) {
            GraphReader x = Readers.withFields(Readers.SERIAL, 7);
            CHECKS.reads("by its type", 1, x, "73" + INTS_DESC + content);
            CHECKS.values("not given", x, 1, NULL);
            CHECKS.reads("by its name", 1, Readers.with(Readers.SERIAL), "73" + INTS_DESC + content);
        }
    }

    private static void typeSeven() {
        CHECKS.by("7 any object");
        String[] contents = {Hex.text("a"), Hex.ints(4), Hex.refs(), Hex.ref(2)};
        int[] wants = {2, 2, 2, 1};
        for (int k = 0; k < contents.length; k++) {
            GraphReader x = Readers.withFields(Readers.SERIAL, 7);
            CHECKS.reads("content " + k, 1, x,
                    "73" + Hex.desc("A", 0, 2, Hex.NULL, Hex.field('L', "a", Hex.text("s"))) + contents[k]);
            CHECKS.values("content " + k, x, 1, wants[k]);
        }
    }

    private static void topmostFirst() {
        CHECKS.by("Then for the DESCRIPTOR and those above it, topmost first, the DATA.");
        GraphReader x = Readers.fresh();
        for (int number = 0; number < 3; number++) {
            x.define(number, Readers.SERIAL, number - 1, 0);
            x.field(number, 0, 0);
        }
        String field = Hex.field('B', "a");
        CHECKS.reads("three above one another", 0, x, "73" + Hex.desc("C", 0, 2,
                Hex.desc("B", 0, 2, Hex.desc("A", 0, 2, Hex.NULL, field), field), field) + "010203");
        CHECKS.values("their SLOTS", x, 0, 1, 2, 3);
        GraphReader y = Readers.withFields(Readers.SERIAL, 0);
        CHECKS.reads("a class above itself", 0, y,
                "73" + Hex.desc("A", 0, 2, Hex.desc("A", 0, 2, Hex.NULL, field), field) + "0102");
        CHECKS.values("the lowest is last", y, 0, 2);
    }

    private static void manyAboveOneAnother() {
        CHECKS.by("Then for the DESCRIPTOR and those above it, topmost first, the DATA.");
        GraphReader x = Readers.withFields(Readers.SERIAL, 0);
        StringBuilder hex = new StringBuilder(Hex.desc("A", 0, 2, Hex.NULL, Hex.field('B', "a")));
        for (int k = 0; k < 20; k++) {
            hex.append(Hex.desc("A", 0, 2, Hex.ref(k), Hex.field('B', "a")));
        }
        hex.append("73" + Hex.ref(20));
        for (int k = 1; k <= 21; k++) {
            hex.append(Hex.u1(k));
        }
        Hex.open(x, hex.toString());
        for (int k = 0; k < 21; k++) {
            CHECKS.same("a descriptor", x.read(), NULL);
        }
        CHECKS.same("an instance with 21 descriptors", x.read(), 0);
        CHECKS.values("the last byte", x, 0, 21);
        CHECKS.same("PLACE", x.count(0), x.count(4));
    }
}
