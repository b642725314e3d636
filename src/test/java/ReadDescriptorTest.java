/** Promise 7, descriptors: how they are read, and what is checked where. */
public final class ReadDescriptorTest {
    private static final Checks CHECKS = new Checks();
    private static final int NULL = GraphReader.NULL;
    private static final int END = GraphReader.END;
    private static final int CORRUPT = GraphReader.CORRUPT;
    private static final int BAD_CLASS = GraphReader.BAD_CLASS;
    private static final String START = "72" + Hex.utf("X");

    public static void main(String[] args) {
        everyFirstByte();
        everyPart();
        flags();
        streamFields();
        signatures();
        rest();
        aboveOneAnother();
        localClassIsMatched();
        idsMustAgree();
        fieldsMustAgree();
        orderOfChecks();
        matchedOnce();
        CHECKS.end();
    }

    private static void everyFirstByte() {
        for (int tag = 0; tag < 256; tag++) {
            GraphReader x = Readers.fresh();
            Hex.open(x, "73" + Hex.u1(tag));
            CHECKS.same("a descriptor at " + Hex.u1(tag), x.read(), tag == 0x71 || tag == 0x72 ? END : CORRUPT);
        }
        CHECKS.fault("no descriptor", END, Readers.fresh(), "73");
        for (String tag : new String[] {"73", "75", "7E"}) {
            CHECKS.fault("a NULL descriptor", CORRUPT, Readers.fresh(), tag + Hex.NULL);
            GraphReader x = Readers.fresh();
            Hex.open(x, Hex.text("a"), tag + Hex.ref(0));
            x.read();
            CHECKS.same("a text as a descriptor", x.read(), CORRUPT);
        }
        CHECKS.fault("no such handle", CORRUPT, Readers.fresh(), "73" + Hex.ref(0));
    }

    private static void everyPart() {
        String whole = Hex.desc("X", 5, 3, Hex.desc("Y", 6, 2, Hex.NULL, Hex.field('I', "long name")),
                Hex.field('J', "a"), Hex.field('[', "b", Hex.text("[I")));
        for (int end = 2; end < whole.length(); end += 2) {
            CHECKS.fault("a descriptor up to " + end / 2, END, Readers.fresh(), whole.substring(0, end));
        }
        GraphReader x = Readers.fresh();
        CHECKS.reads("a whole descriptor", NULL, x, whole);
        CHECKS.same("its handles", x.count(1), 3);
        CHECKS.same("the text of a signature", x.count(2), 1);
        CHECKS.fault("a wrong sign in a name", CORRUPT, Readers.fresh(), "72000180");
        CHECKS.fault("a wrong sign in a field's name", CORRUPT, Readers.fresh(), START + Hex.i8(0) + "02" + "0001" + "49000100");
    }

    private static void flags() {
        for (int flags = 0; flags < 256; flags++) {
            boolean bad = (flags & 4) != 0;
            GraphReader x = Readers.fresh();
            Hex.open(x, Hex.desc("X", 0, flags, Hex.NULL));
            CHECKS.same("flags " + flags, x.read(), bad ? BAD_CLASS : NULL);
            GraphReader y = Readers.fresh();
            Hex.open(y, Hex.desc("X", 1, flags, Hex.NULL));
            CHECKS.same("flags " + flags + " and an id", y.read(), bad || (flags & 16) != 0 ? BAD_CLASS : NULL);
        }
        CHECKS.fault("02 and 04 where the flags are", BAD_CLASS, Readers.fresh(), START + Hex.i8(0) + "06");
        CHECKS.fault("10 with an id where the flags are", BAD_CLASS, Readers.fresh(), START + Hex.i8(1L << 63) + "10");
        CHECKS.fault("04 alone goes on", END, Readers.fresh(), START + Hex.i8(0) + "04" + "0000");
        CHECKS.fault("04 and 01 go on", END, Readers.fresh(), START + Hex.i8(0) + "05" + "0000");
        CHECKS.fault("04 alone goes on to the end", CORRUPT, Readers.fresh(), START + Hex.i8(0) + "04" + "0000" + "78" + "00");
    }

    private static void streamFields() {
        String before = START + Hex.i8(0) + "02";
        for (int type = 0; type < 256; type++) {
            boolean known = "BCIJSZ[L".indexOf(type) >= 0;
            CHECKS.fault("a field of type " + type, known ? END : BAD_CLASS, Readers.fresh(), before + "0001" + Hex.u1(type));
        }
        String[] eight = new String[8];
        for (int k = 0; k < 8; k++) {
            eight[k] = Hex.field('I', "a");
        }
        CHECKS.reads("8 fields", NULL, Readers.fresh(), Hex.desc("X", 0, 2, Hex.NULL, eight));
        CHECKS.fault("9 fields", BAD_CLASS, Readers.fresh(), before + "0009");
        CHECKS.fault("FFFF fields", BAD_CLASS, Readers.fresh(), before + "FFFF");
        CHECKS.fault("a constant's fields, at their end", BAD_CLASS, Readers.fresh(),
                START + Hex.i8(0) + "10" + "0001" + Hex.field('I', "a"));
        CHECKS.fault("a constant's fields, before their end", END, Readers.fresh(), START + Hex.i8(0) + "10" + "0001" + "49");
    }

    private static void signatures() {
        for (char type : new char[] {'[', 'L'}) {
            String before = START + Hex.i8(0) + "02" + "0001" + Hex.u1(type) + Hex.utf("a");
            CHECKS.reads("a text", NULL, Readers.fresh(), before + Hex.text("") + "78" + Hex.NULL);
            CHECKS.fault("NULL", CORRUPT, Readers.fresh(), before + Hex.NULL);
            CHECKS.fault("a descriptor", CORRUPT, Readers.fresh(), before + Hex.desc("Y", 0, 2, Hex.NULL));
            CHECKS.fault("INTS", CORRUPT, Readers.fresh(), before + Hex.ints());
            CHECKS.fault("a block", CORRUPT, Readers.fresh(), before + Hex.block(""));
            CHECKS.fault("a reset", CORRUPT, Readers.fresh(), before + "79");
            CHECKS.fault("an abort", GraphReader.ABORTED, Readers.fresh(), before + "7B");
        }
        GraphReader x = Readers.fresh();
        CHECKS.reads("a text read before", NULL, x, Hex.desc("X", 0, 2, Hex.NULL,
                Hex.field('L', "a", Hex.text("s")), Hex.field('[', "b", Hex.ref(1))));
        CHECKS.same("one text", x.count(2), 1);
    }

    private static void rest() {
        String before = START + Hex.i8(0) + "02" + "0000";
        String full = Hex.block("7878") + Hex.text("a") + Hex.longBlock("787878") + Hex.NULL + Hex.block("");
        GraphReader x = Readers.fresh();
        CHECKS.reads("blocks and reads in the rest", NULL, x, before + full + "78" + Hex.NULL);
        CHECKS.same("the text is there", x.count(2), 1);
        CHECKS.same("its handle", x.count(1), 2);
        CHECKS.fault("no end of the rest", END, Readers.fresh(), before + full);
        CHECKS.fault("a long block below 0", CORRUPT, Readers.fresh(), before + "7AFFFFFFFF");
        CHECKS.fault("a long block of most", END, Readers.fresh(), before + "7A7FFFFFFF0000");
        CHECKS.fault("a block that is too long", END, Readers.fresh(), before + "770300");
        CHECKS.fault("a reset in the rest", CORRUPT, Readers.fresh(), before + "79");
        CHECKS.fault("an abort in the rest", GraphReader.ABORTED, Readers.fresh(), before + "7B");
        CHECKS.fault("itself in the rest", CORRUPT, Readers.fresh(), before + "73" + Hex.ref(0));
    }

    private static void aboveOneAnother() {
        CHECKS.reads("8 above one another", NULL, Readers.fresh(), tower(8, Hex.NULL));
        CHECKS.fault("a 9th", CORRUPT, Readers.fresh(), tower(8, "72"));
        for (String tag : new String[] {"73", "75", "7E"}) {
            CHECKS.fault("8 behind " + tag, END, Readers.fresh(), tag + tower(8, ""));
            CHECKS.fault("a 9th behind " + tag, CORRUPT, Readers.fresh(), tag + tower(8, "72"));
        }
        CHECKS.fault("itself above", CORRUPT, Readers.fresh(), tower(1, Hex.ref(0)));
        CHECKS.fault("one below above", CORRUPT, Readers.fresh(), tower(3, Hex.ref(1)));
        CHECKS.fault("a text above", CORRUPT, Readers.fresh(), tower(1, Hex.text("a")));
        GraphReader x = Readers.fresh();
        Hex.open(x, tower(8, Hex.NULL), tower(8, Hex.ref(0)));
        CHECKS.same("8 above one another", x.read(), NULL);
        CHECKS.same("8 below those by a handle", x.read(), NULL);
        CHECKS.same("HANDLES", x.count(1), 16);
        GraphReader y = Readers.fresh();
        String inRest = START + Hex.i8(0) + "02" + "0000" + tower(8, Hex.NULL) + "78" + tower(7, Hex.NULL);
        CHECKS.reads("those in a rest are not above", NULL, y, inRest);
    }

    private static String tower(int height, String top) {
        String hex = top;
        for (int k = 0; k < height; k++) {
            hex = Hex.desc("X", 0, 2, hex);
        }
        return hex;
    }

    private static void localClassIsMatched() {
        for (String name : new String[] {"B", "G", "a", "AA", "", "@"}) {
            GraphReader x = Readers.fresh();
            x.define(0, 1, -1, 0);
            CHECKS.fault("an instance of " + name, GraphReader.UNKNOWN, x, "73" + Hex.desc(name, 0, 2, Hex.NULL));
        }
        for (int number = 0; number < 6; number++) {
            GraphReader x = Readers.fresh();
            x.define(number, 1, -1, 0);
            CHECKS.reads("an instance", 0, x, "73" + Hex.desc(String.valueOf((char) ('A' + number)), 0, 2, Hex.NULL));
            CHECKS.same("its class", x.object(0, 1), number);
        }
        for (int kind = 0; kind <= 4; kind++) {
            GraphReader x = Readers.fresh();
            x.define(0, kind, -1, 0);
            Hex.open(x, Hex.desc("A", 0, 2, Hex.NULL));
            CHECKS.same("no constant, kind " + kind, x.read(), kind == 3 ? BAD_CLASS : NULL);
            GraphReader y = Readers.fresh();
            y.define(0, kind, -1, 0);
            Hex.open(y, Hex.desc("A", 0, 0x12, Hex.NULL));
            CHECKS.same("a constant, kind " + kind, y.read(), kind == 3 ? NULL : BAD_CLASS);
        }
        CHECKS.reads("a constant without a class", NULL, Readers.fresh(), Hex.desc("A", 0, 0x12, Hex.NULL));
    }

    private static void idsMustAgree() {
        for (int kind = 0; kind <= 4; kind++) {
            int flags = kind == 3 ? 0x12 : 2;
            long id = kind == 3 ? 0 : 6;
            GraphReader x = Readers.fresh();
            x.define(0, kind, -1, 5);
            Hex.open(x, Hex.desc("A", id, flags, Hex.NULL));
            CHECKS.same("another id, kind " + kind, x.read(), kind == 0 || kind == 3 ? NULL : BAD_CLASS);
            GraphReader y = Readers.fresh();
            y.define(0, kind, -1, 5);
            CHECKS.reads("another id without 02, kind " + kind, NULL, y, Hex.desc("A", id, flags & ~2, Hex.NULL));
            GraphReader z = Readers.fresh();
            z.define(0, kind, -1, 5);
            CHECKS.reads("another id with 01 alone, kind " + kind, NULL, z, Hex.desc("A", id, flags & ~2 | 1, Hex.NULL));
        }
    }

    private static void fieldsMustAgree() {
        String signs = "BCIJSZ[L";
        for (int ours = 0; ours < 8; ours++) {
            for (int theirs = 0; theirs < 8; theirs++) {
                String signature = theirs < 6 ? "" : Hex.text("x");
                boolean bad = ours != theirs && (ours < 6 || theirs < 6);
                GraphReader x = Readers.fresh();
                x.define(0, 1, -1, 0);
                x.field(0, 3, 2);
                x.field(0, 25, ours);
                Hex.open(x, Hex.desc("A", 0, 2, Hex.NULL, Hex.field(signs.charAt(theirs), "z", signature)));
                CHECKS.same("types " + ours + " and " + theirs, x.read(), bad ? BAD_CLASS : NULL);
            }
        }
        for (String name : new String[] {"", "zz", "A", "y", "{", "`"}) {
            GraphReader x = Readers.fresh();
            x.define(0, 1, -1, 0);
            x.field(0, 25, 3);
            x.field(0, 0, 3);
            CHECKS.reads("no namesake of " + name, NULL, x, Hex.desc("A", 0, 2, Hex.NULL, Hex.field('I', name)));
        }
        GraphReader above = Readers.fresh();
        above.define(0, 1, -1, 0);
        above.define(1, 1, 0, 0);
        above.field(0, 0, 3);
        CHECKS.reads("a namesake in the class above", NULL, above,
                Hex.desc("B", 0, 2, Hex.NULL, Hex.field('I', "a")));
        GraphReader plain = Readers.fresh();
        plain.define(0, 0, -1, 0);
        plain.field(0, 0, 3);
        CHECKS.fault("a namesake in a PLAIN class", BAD_CLASS, plain,
                Hex.desc("A", 9, 2, Hex.NULL, Hex.field('I', "a")));
    }

    private static void orderOfChecks() {
        GraphReader x = Readers.fresh();
        x.define(0, 1, -1, 5);
        CHECKS.fault("an id is looked at behind the descriptor above", CORRUPT, x, Hex.desc("A", 6, 2, "00"));
        GraphReader y = Readers.fresh();
        y.define(0, 1, -1, 5);
        CHECKS.fault("the one above is matched first", BAD_CLASS, y,
                "73" + Hex.desc("B", 0, 2, Hex.desc("A", 6, 2, Hex.NULL)));
        GraphReader z = Readers.fresh();
        z.define(0, 1, -1, 5);
        z.constant(0, 0, true);
        CHECKS.fault("matched before limits are asked", BAD_CLASS, z, "73" + Hex.desc("A", 6, 2, Hex.NULL));
    }

    private static void matchedOnce() {
        GraphReader x = Readers.fresh();
        Hex.open(x, Hex.desc("A", 0, 2, Hex.NULL), "73" + Hex.ref(0));
        CHECKS.same("a descriptor without a class", x.read(), NULL);
        x.define(0, 1, -1, 0);
        CHECKS.same("a class defined behind its descriptor", x.read(), GraphReader.UNKNOWN);
    }
}
