/** Promise 7, descriptors: how they are read, and what is checked where. */
public final class ReadDescriptorTest {
    private static final Checks CHECKS = new Checks();
    private static final int NULL = GraphReader.NULL;
    private static final int END = GraphReader.END;
    private static final int CORRUPT = GraphReader.CORRUPT;
    private static final int BAD_CLASS = GraphReader.BAD_CLASS;
    private static final String START = Hex.untilFlags("X", 0);

    public static void main(String[] args) {
        everyFirstByte();
        entryMustBeADescriptor();
        knownByItsEntry();
        nothingAbove();
        endAtEveryByte();
        entriesInTheirOrder();
        bothFlags();
        constantWithAnId();
        everyFlags();
        external();
        everyTypeOfAField();
        signatureMustBeAText();
        signatureByAHandle();
        constantWithFields();
        eightFields();
        nineFields();
        eightAboveOneAnother();
        aNinth();
        aNinthByAHandle();
        aNinthInARest();
        CHECKS.end();
    }

    private static void everyFirstByte() {
        CHECKS.by("Any other first byte: CORRUPT.");
        for (String tag : new String[] {"73", "75", "7E", Hex.desc("X", 0, 2, "")}) {
            for (int first = 0; first < 256; first++) {
                int want = first == 0x71 || first == 0x72 ? END : CORRUPT;
                if (first == 0x70 && tag.startsWith("72")) {
                    want = NULL;
                }
                CHECKS.same("the byte " + first + " behind " + tag, Readers.opened(tag + Hex.u1(first)).read(), want);
            }
            CHECKS.fault("no byte behind " + tag, END, Readers.fresh(), tag);
        }
    }

    private static void entryMustBeADescriptor() {
        CHECKS.by("71: as above, but the entry must be a DESCRIPTOR.");
        for (String tag : new String[] {"73", "75", "7E", Hex.desc("X", 0, 2, "")}) {
            GraphReader x = Readers.opened(Hex.text("a"), tag + Hex.ref(0));
            CHECKS.readsInTurn(x, 0, CORRUPT);
            for (int entry : new int[] {-1, 3, 60}) {
                GraphReader y = Readers.opened(Hex.desc("[I"), tag + Hex.ref(entry));
                CHECKS.readsInTurn(y, NULL, CORRUPT);
            }
        }
        CHECKS.fault("its own entry, NONE", CORRUPT, Readers.fresh(), Hex.tower(3, Hex.ref(2)));
        CHECKS.fault("one below, NONE", CORRUPT, Readers.fresh(), Hex.tower(3, Hex.ref(0)));
        CHECKS.fault("a record's entry, NULL", CORRUPT, Readers.with(Readers.RECORD),
                "73" + Hex.desc("A", 0, 3, Hex.NULL) + "73" + Hex.ref(1));
    }

    private static void knownByItsEntry() {
        CHECKS.by("71: as above, but the entry must be a DESCRIPTOR.");
        GraphReader x = Readers.with(Readers.SERIAL, Readers.SERIAL);
        Hex.open(x, Hex.desc("B", 0, 2, Hex.desc("A")), "73" + Hex.ref(1), "73" + Hex.ref(0));
        CHECKS.readsInTurn(x, NULL, 0, 1);
        CHECKS.same("the upper has the later entry", x.object(0, 1), 0);
        CHECKS.same("the lower has the earlier entry", x.object(1, 1), 1);
    }

    private static void nothingAbove() {
        CHECKS.by("A DESCRIPTOR is read: 70: NULL.");
        GraphReader x = Readers.with(Readers.SERIAL);
        CHECKS.reads("an instance", 0, x, "73" + Hex.desc("A", 0, 2, Hex.NULL));
        CHECKS.same("HANDLES", x.count(1), 2);
    }

    private static void endAtEveryByte() {
        CHECKS.by("Whatever needs a byte where there is none is the fault END.");
        String whole = Hex.desc("X", 5, 3, Hex.desc("Y", 6, 2, Hex.NULL, Hex.field('I', "long name")),
                Hex.field('J', "a"), Hex.field('[', "b", Hex.text("[I")));
        for (int end = 2; end < whole.length(); end += 2) {
            CHECKS.fault("up to byte " + end / 2, END, Readers.fresh(), whole.substring(0, end));
        }
        CHECKS.reads("all of it", NULL, Readers.fresh(), whole);
    }

    private static void entriesInTheirOrder() {
        CHECKS.by("72: its name by UTF, I8, an entry (NONE till it is all read), a byte of flags, U2 fields: each a byte, a name by UTF");
        GraphReader x = Readers.fresh();
        Hex.open(x, Hex.desc("X", 0, 2, Hex.desc("Y"), Hex.field('L', "a", Hex.text("s"))), Hex.ref(1), "75" + Hex.ref(2));
        CHECKS.readsInTurn(x, NULL, 0, BAD_CLASS);
        CHECKS.same("HANDLES", x.count(1), 3);
    }

    private static void bothFlags() {
        CHECKS.by("where the flags are read: both 02 and 04 set: BAD_CLASS");
        for (int flags = 0; flags < 256; flags++) {
            int want = (flags & 6) == 6 ? BAD_CLASS : END;
            CHECKS.fault("flags " + flags + ", before fields are", want, Readers.fresh(), START + Hex.u1(flags));
        }
    }

    private static void constantWithAnId() {
        CHECKS.by("10 set and the I8 not 0: BAD_CLASS.");
        for (int bit = 0; bit < 64; bit++) {
            String start = Hex.untilFlags("X", 1L << bit);
            CHECKS.fault("10, bit " + bit, BAD_CLASS, Readers.fresh(), start + "10");
            CHECKS.fault("12, bit " + bit, BAD_CLASS, Readers.fresh(), start + "12");
            CHECKS.fault("02, bit " + bit, END, Readers.fresh(), start + "02");
        }
        CHECKS.fault("10 and an id of 0", END, Readers.fresh(), START + "10");
    }

    private static void everyFlags() {
        CHECKS.by("When all is read: 04 set: BAD_CLASS.");
        for (int flags = 0; flags < 256; flags++) {
            boolean bad = (flags & 4) != 0;
            CHECKS.same("flags " + flags, Readers.opened(Hex.desc("X", 0, flags, Hex.NULL)).read(), bad ? BAD_CLASS : NULL);
            boolean badWithId = bad || (flags & 0x10) != 0;
            CHECKS.same("flags " + flags + " and an id", Readers.opened(Hex.desc("X", 1, flags, Hex.NULL)).read(),
                    badWithId ? BAD_CLASS : NULL);
        }
    }

    private static void external() {
        CHECKS.by("When all is read: 04 set: BAD_CLASS.");
        CHECKS.fault("04 goes on to the fields", END, Readers.fresh(), START + "04" + "0000");
        CHECKS.fault("04 goes on to the rest", CORRUPT, Readers.fresh(), START + "04" + "0000" + "7978");
        CHECKS.fault("04 goes on to the one above", CORRUPT, Readers.fresh(), START + "04" + "0000" + "78" + "00");
        CHECKS.fault("04 with nothing above", BAD_CLASS, Readers.fresh(), START + "04" + "0000" + "78" + Hex.NULL);
        CHECKS.fault("04 above", BAD_CLASS, Readers.fresh(), Hex.desc("Y", 0, 2, Hex.desc("X", 0, 4, Hex.NULL)));
    }

    private static void everyTypeOfAField() {
        CHECKS.by("Where a field's byte is read: none of B C I J S Z [ L: BAD_CLASS.");
        for (int type = 0; type < 256; type++) {
            boolean known = "BCIJSZ[L".indexOf(type) >= 0;
            CHECKS.fault("type " + type, known ? END : BAD_CLASS, Readers.fresh(), START + "02" + "0001" + Hex.u1(type));
            CHECKS.fault("type " + type + " of a second", known ? END : BAD_CLASS, Readers.fresh(),
                    START + "02" + "0002" + Hex.field('I', "a") + Hex.u1(type));
        }
    }

    private static void signatureMustBeAText() {
        CHECKS.by("and for '[' and 'L' a READ one deeper that must give a TEXT (else CORRUPT).");
        for (char type : new char[] {'[', 'L'}) {
            String before = START + "02" + "0001" + Hex.field(type, "a");
            CHECKS.reads("an empty text", NULL, Readers.fresh(), before + Hex.text("") + "78" + Hex.NULL);
            String[] others = {Hex.NULL, Hex.desc("Y"), Hex.ints(), Hex.refs(), "73" + Hex.desc("A")};
            for (int k = 0; k < others.length; k++) {
                CHECKS.fault("content " + k, CORRUPT, Readers.with(Readers.SERIAL), before + others[k]);
            }
            CHECKS.fault("no byte", END, Readers.fresh(), before);
            CHECKS.fault("an abort", GraphReader.ABORTED, Readers.fresh(), before + "7B");
        }
        for (char type : "BCIJSZ".toCharArray()) {
            CHECKS.reads("none for " + type, NULL, Readers.fresh(), Hex.desc("X", 0, 2, Hex.NULL, Hex.field(type, "a")));
        }
    }

    private static void signatureByAHandle() {
        CHECKS.by("and for '[' and 'L' a READ one deeper that must give a TEXT (else CORRUPT).");
        GraphReader x = Readers.fresh();
        CHECKS.reads("a text by its entry", NULL, x, Hex.desc("X", 0, 2, Hex.NULL,
                Hex.field('L', "a", Hex.text("s")), Hex.field('[', "b", Hex.ref(1))));
        CHECKS.same("one text", x.count(2), 1);
        GraphReader y = Readers.opened(Hex.ints(), START + "02" + "0001" + Hex.field('L', "a", Hex.ref(1)));
        CHECKS.readsInTurn(y, 0, CORRUPT);
    }

    private static void constantWithFields() {
        CHECKS.by("At the end of the fields: 10 set and there are some: BAD_CLASS.");
        for (String flags : new String[] {"10", "12"}) {
            String before = START + flags;
            CHECKS.fault("one, at its end", BAD_CLASS, Readers.fresh(), before + "0001" + Hex.field('I', "a"));
            CHECKS.fault("one, before its end", END, Readers.fresh(), before + "0001" + "490001");
            CHECKS.fault("two, at the end of the first", END, Readers.fresh(), before + "0002" + Hex.field('I', "a"));
            CHECKS.fault("a wrong signature comes first", CORRUPT, Readers.fresh(),
                    before + "0001" + Hex.field('L', "a", Hex.NULL));
            CHECKS.reads("none", NULL, Readers.fresh(), before + "0000" + "78" + Hex.NULL);
        }
    }

    private static String fields(int count) {
        return Hex.field('I', "a").repeat(count);
    }

    private static void eightFields() {
        CHECKS.by("More than 8 fields: BAD_CLASS where the U2 is read");
        for (int count = 0; count <= 8; count++) {
            CHECKS.reads(count + " fields", NULL, Readers.fresh(),
                    START + "02" + Hex.u2(count) + fields(count) + "78" + Hex.NULL);
        }
        GraphReader x = Readers.with(Readers.SERIAL);
        x.field(0, 7, 0);
        StringBuilder eight = new StringBuilder();
        for (int k = 0; k < 8; k++) {
            eight.append(Hex.field('B', String.valueOf((char) ('a' + k))));
        }
        CHECKS.reads("an instance of 8 fields", 0, x, "73" + Hex.untilFlags("A", 0) + "02" + "0008" + eight + "78" + Hex.NULL
                + "0102030405060708");
        CHECKS.values("the eighth", x, 0, 8);
    }

    private static void nineFields() {
        CHECKS.by("More than 8 fields: BAD_CLASS where the U2 is read");
        for (String count : new String[] {"0009", "000A", "0100", "0108", "8000", "FFFF"}) {
            CHECKS.fault(count + " fields", BAD_CLASS, Readers.fresh(), START + "02" + count);
        }
        CHECKS.fault("before a field's byte", BAD_CLASS, Readers.fresh(), START + "02" + "0009" + fields(9) + "78" + Hex.NULL);
    }

    private static void eightAboveOneAnother() {
        CHECKS.by("a 9th DESCRIPTOR above one another: CORRUPT at its 72.");
        for (int height = 1; height <= 8; height++) {
            GraphReader x = Readers.fresh();
            CHECKS.reads(height + " above one another", NULL, x, Hex.tower(height, Hex.NULL));
            CHECKS.same("HANDLES", x.count(1), height);
        }
        for (String tag : new String[] {"73", "75", "7E"}) {
            CHECKS.fault("8 behind " + tag, END, Readers.fresh(), tag + Hex.tower(8, ""));
        }
    }

    private static void aNinth() {
        CHECKS.by("a 9th DESCRIPTOR above one another: CORRUPT at its 72.");
        for (String tag : new String[] {"", "73", "75", "7E"}) {
            CHECKS.fault("a 9th behind " + tag, CORRUPT, Readers.fresh(), tag + Hex.tower(8, "72"));
            CHECKS.fault("all of a 9th behind " + tag, CORRUPT, Readers.fresh(), tag + Hex.tower(9, Hex.NULL));
        }
        CHECKS.fault("an 8th needs its name", END, Readers.fresh(), Hex.tower(7, "72"));
    }

    private static void aNinthByAHandle() {
        CHECKS.by("a 9th DESCRIPTOR above one another: CORRUPT at its 72.");
        GraphReader x = Readers.opened(Hex.tower(8, Hex.NULL), Hex.tower(8, Hex.ref(0)));
        CHECKS.readsInTurn(x, NULL, NULL);
        CHECKS.same("HANDLES", x.count(1), 16);
    }

    private static void aNinthInARest() {
        CHECKS.by("a 9th DESCRIPTOR above one another: CORRUPT at its 72.");
        CHECKS.reads("those in a rest are not above", NULL, Readers.fresh(),
                Hex.untilRest("X", 0, 2) + Hex.tower(8, Hex.NULL) + "78" + Hex.tower(7, Hex.NULL));
        CHECKS.fault("nor do they count", CORRUPT, Readers.fresh(),
                Hex.untilRest("X", 0, 2) + Hex.tower(8, Hex.NULL) + "78" + Hex.tower(8, Hex.NULL));
    }
}
