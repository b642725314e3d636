/** Promise 7, what each first byte of a read decides: null, references, texts, resets, and the bytes that may not be there. */
public final class ReadContentTest {
    private static final Checks CHECKS = new Checks();
    private static final int NULL = GraphReader.NULL;
    private static final int END = GraphReader.END;
    private static final int CORRUPT = GraphReader.CORRUPT;

    public static void main(String[] args) {
        everyAnswer();
        nullIsNoObject();
        aborted();
        everyFirstByte();
        everyByteDeeper();
        resetAtDepth1();
        manyResets();
        resetDeeper();
        blocksDeeper();
        references();
        referencesToNoEntry();
        referencesThatWrapAround();
        referenceToADescriptor();
        referenceToNone();
        referenceToNull();
        texts();
        aReadOfADescriptor();
        asManyObjectsAsBytesAllow();
        CHECKS.end();
    }

    private static void everyAnswer() {
        CHECKS.by("Answers the object's number, NULL, or the fault.");
        GraphReader x = Readers.opened(Hex.text("a"), Hex.NULL, Hex.text("b"), Hex.ref(0), "78");
        CHECKS.readsInTurn(x, 0, NULL, 1, 0, GraphReader.OPTIONAL, GraphReader.OPTIONAL);
    }

    private static void nullIsNoObject() {
        CHECKS.by("NULL is no object.");
        GraphReader x = Readers.opened(Hex.NULL, Hex.NULL, Hex.text("a"));
        CHECKS.readsInTurn(x, NULL, NULL);
        CHECKS.counts("behind NULL", x, 6, 0, 0, 0);
        CHECKS.same("the first object", x.read(), 0);
        CHECKS.same("NULL as an object", x.object(NULL, 0), GraphReader.REFUSED);
    }

    private static void aborted() {
        CHECKS.by("7B: ABORTED.");
        CHECKS.fault("at DEPTH 1", GraphReader.ABORTED, Readers.fresh(), "7B");
        for (String stream : deeper("7B")) {
            CHECKS.fault("in " + stream, GraphReader.ABORTED, withAAndB(), stream);
        }
    }

    private static void everyFirstByte() {
        CHECKS.by("Any other byte: CORRUPT.");
        for (int tag = 0; tag < 256; tag++) {
            int want = CORRUPT;
            if (tag == 0x70) {
                want = NULL;
            } else if (tag >= 0x71 && tag <= 0x75 || tag == 0x79 || tag == 0x7E) {
                want = END;
            } else if (tag == 0x77 || tag == 0x78 || tag == 0x7A) {
                want = GraphReader.OPTIONAL;
            } else if (tag == 0x7B) {
                want = GraphReader.ABORTED;
            }
            CHECKS.same("the byte " + Hex.u1(tag), Readers.opened(Hex.u1(tag)).read(), want);
        }
        CHECKS.fault("no byte", END, Readers.fresh());
    }

    private static void everyByteDeeper() {
        CHECKS.by("Any other byte: CORRUPT.");
        for (int tag = 0; tag < 256; tag++) {
            int want = CORRUPT;
            if (tag == 0x70) {
                want = 0;
            } else if (tag >= 0x71 && tag <= 0x75 || tag == 0x7E) {
                want = END;
            } else if (tag == 0x7B) {
                want = GraphReader.ABORTED;
            }
            CHECKS.same("deeper, the byte " + Hex.u1(tag), Readers.opened(Hex.refs(Hex.u1(tag))).read(), want);
        }
    }

    private static void resetAtDepth1() {
        CHECKS.by("79: at DEPTH 1 the HANDLES become empty and the READ begins anew with the byte behind; deeper: CORRUPT.");
        GraphReader x = Readers.opened(Hex.text("a"), "79" + Hex.text("b"), Hex.ref(0), "79" + Hex.NULL, Hex.ref(0));
        CHECKS.readsInTurn(x, 0, 1);
        CHECKS.same("HANDLES", x.count(1), 1);
        CHECKS.same("HEAP", x.count(2), 2);
        CHECKS.readsInTurn(x, 1, NULL);
        CHECKS.same("HANDLES", x.count(1), 0);
        CHECKS.same("no entry 0", x.read(), CORRUPT);
        GraphReader y = Readers.opened(Hex.text("a"), "79" + Hex.ref(0));
        CHECKS.readsInTurn(y, 0, CORRUPT);
        GraphReader z = Readers.opened(Hex.desc("[I"), "79" + "75" + Hex.ref(0));
        CHECKS.readsInTurn(z, NULL, CORRUPT);
    }

    private static void manyResets() {
        CHECKS.by("79: at DEPTH 1 the HANDLES become empty and the READ begins anew with the byte behind; deeper: CORRUPT.");
        CHECKS.fault("resets up to byte 700", END, Readers.fresh(), "79".repeat(696));
        CHECKS.reads("resets up to NULL at byte 700", NULL, Readers.fresh(), "79".repeat(695) + Hex.NULL);
        CHECKS.reads("resets up to a text", 0, Readers.fresh(), "7979" + Hex.text("a"));
        CHECKS.same("a reset up to a block", Readers.opened("79" + Hex.block("")).read(), GraphReader.OPTIONAL);
    }

    /** A class A with a field a, and streams that read this content deeper in each way that there is. */
    private static String[] deeper(String content) {
        String objectField = Hex.field('L', "a", Hex.text("s"));
        return new String[] {Hex.refs(content), "73" + Hex.desc("A", 0, 2, Hex.NULL, objectField) + content,
            "73" + Hex.desc("A", 0, 3, Hex.NULL) + content, Hex.untilRest("X", 0, 2) + content,
            Hex.untilRest("X", 0, 2, Hex.field('[', "a", content)), "7E" + Hex.constantDesc("B") + content};
    }

    private static GraphReader withAAndB() {
        GraphReader x = Readers.with(Readers.SERIAL, Readers.CONSTANT);
        x.field(0, 0, 7);
        return x;
    }

    private static void resetDeeper() {
        CHECKS.by("79: at DEPTH 1 the HANDLES become empty and the READ begins anew with the byte behind; deeper: CORRUPT.");
        for (String stream : deeper("79" + Hex.NULL)) {
            CHECKS.fault("a reset in " + stream, CORRUPT, withAAndB(), stream);
        }
    }

    private static void blocksDeeper() {
        CHECKS.by("77, 7A, 78: at DEPTH 1 OPTIONAL, deeper CORRUPT.");
        for (String content : new String[] {Hex.block(""), Hex.longBlock(""), "78"}) {
            String[] streams = deeper(content);
            for (int way : new int[] {0, 1, 4, 5}) {
                CHECKS.fault("no read in " + streams[way], CORRUPT, withAAndB(), streams[way]);
            }
        }
    }

    private static void references() {
        CHECKS.by("71: U4 less 7E0000 must be the number of an entry of HANDLES that is an object or NULL: that; else CORRUPT.");
        GraphReader x = Readers.opened(Hex.text("a"), Hex.text("b"), Hex.ref(0), Hex.ref(1),
                Hex.refs(Hex.ref(3), Hex.ref(1)), Hex.ref(3));
        CHECKS.readsInTurn(x, 0, 1, 0, 1, 2, 2);
        CHECKS.values("a ring and a shared object", x, 2, 2, 1);
        CHECKS.same("no new entries", x.count(1), 4);
    }

    private static void referencesToNoEntry() {
        CHECKS.by("71: U4 less 7E0000 must be the number of an entry of HANDLES that is an object or NULL: that; else CORRUPT.");
        CHECKS.fault("HANDLES are empty", CORRUPT, Readers.fresh(), Hex.ref(0));
        CHECKS.fault("HANDLES are empty, -1", CORRUPT, Readers.fresh(), Hex.ref(-1));
        for (int entry : new int[] {-1, 2, 3, 60, 233, 234, 700}) {
            GraphReader x = Readers.behindTexts(2, Hex.ref(entry));
            CHECKS.same("entry " + entry + " of 2", x.read(), CORRUPT);
        }
        GraphReader full = Readers.behindTexts(60, Hex.ref(59), Hex.ref(60));
        CHECKS.readsInTurn(full, 59, CORRUPT);
        CHECKS.fault("its own entry", CORRUPT, Readers.fresh(), Hex.refs(Hex.ref(2)));
        GraphReader old = Readers.opened(Hex.text("a"), Hex.text("b"), "79" + Hex.text("c"), Hex.ref(1));
        CHECKS.readsInTurn(old, 0, 1, 2, CORRUPT);
    }

    private static void referencesThatWrapAround() {
        CHECKS.by("71: U4 less 7E0000 must be the number of an entry of HANDLES that is an object or NULL: that; else CORRUPT.");
        for (String number : new String[] {"00000000", "00000001", "0000007E", "7FFFFFFF", "80000000", "807E0000", "FF7E0000",
            "FFFFFFFF", "007D0000", "017E0000", "007F0000", "007E0100"}) {
            GraphReader x = Readers.behindTexts(2, "71" + number);
            CHECKS.same("the number " + number, x.read(), CORRUPT);
            GraphReader y = Readers.opened(Hex.desc("[I"), "75" + "71" + number);
            CHECKS.readsInTurn(y, NULL, CORRUPT);
        }
    }

    private static void referenceToADescriptor() {
        CHECKS.by("71: U4 less 7E0000 must be the number of an entry of HANDLES that is an object or NULL: that; else CORRUPT.");
        CHECKS.readsInTurn(Readers.opened(Hex.desc("X"), Hex.ref(0)), NULL, CORRUPT);
    }

    private static void referenceToNone() {
        CHECKS.by("an entry (NONE till it is all read)");
        CHECKS.fault("a descriptor from its field", CORRUPT, Readers.fresh(),
                Hex.untilFlags("X", 0) + "02" + "0001" + Hex.field('L', "a", Hex.ref(0)));
        CHECKS.fault("a descriptor from its rest", CORRUPT, Readers.fresh(), Hex.untilRest("X", 0, 2) + Hex.ref(0));
        CHECKS.fault("a descriptor from its rest, as one", CORRUPT, Readers.fresh(),
                Hex.untilRest("[I", 0, 2) + "75" + Hex.ref(0));
        CHECKS.fault("a descriptor above itself", CORRUPT, Readers.fresh(), Hex.desc("X", 0, 2, Hex.ref(0)));
    }

    private static void referenceToNull() {
        CHECKS.by("71: U4 less 7E0000 must be the number of an entry of HANDLES that is an object or NULL: that; else CORRUPT.");
        GraphReader x = Readers.withFields(Readers.RECORD, 7);
        String record = "73" + Hex.desc("A", 0, 2, Hex.NULL, Hex.field('L', "a", Hex.text("s"))) + Hex.ref(2);
        CHECKS.reads("a record from within", 1, x, record);
        CHECKS.values("its FIELD", x, 1, NULL);
    }

    private static void texts() {
        CHECKS.by("74: a new entry (NONE at first), UTF: a TEXT is made, it is the entry.");
        GraphReader x = Readers.opened(Hex.text(""), Hex.text("ab"), Hex.ref(1), Hex.ref(0));
        CHECKS.readsInTurn(x, 0, 1);
        CHECKS.same("HANDLES", x.count(1), 2);
        CHECKS.readsInTurn(x, 1, 0);
        CHECKS.values("no sign", x, 0);
        CHECKS.values("two signs", x, 1, 'a', 'b');
        GraphReader same = Readers.opened(Hex.text("a"), Hex.text("a"));
        CHECKS.readsInTurn(same, 0, 1);
    }

    private static void aReadOfADescriptor() {
        CHECKS.by("72: a DESCRIPTOR is read as if PLACE were one less; the READ gives NULL.");
        GraphReader x = Readers.fresh();
        CHECKS.reads("a descriptor", NULL, x, Hex.desc("X", 1, 2, Hex.desc("Y", 2, 2, Hex.NULL)));
        CHECKS.same("its entries", x.count(1), 2);
        CHECKS.same("no object", x.count(2), 0);
        GraphReader y = Readers.fresh();
        CHECKS.reads("a descriptor as a place", 0, y, Hex.refs(Hex.desc("X", 1, 2, Hex.NULL)));
        CHECKS.values("it gives NULL", y, 0, NULL);
    }

    private static void asManyObjectsAsBytesAllow() {
        CHECKS.by("HEAP: what was read, objects 0, 1, ..");
        GraphReader x = Readers.fresh();
        String texts = Hex.text("").repeat(60);
        Hex.put(x, texts + "79" + texts + "79" + texts + "79" + Hex.text("").repeat(52) + Hex.NULL);
        CHECKS.same("BYTES", x.count(4), 700);
        for (int k = 0; k < 232; k++) {
            CHECKS.same("text " + k, x.read(), k);
        }
        CHECKS.same("the last byte", x.read(), NULL);
        CHECKS.counts("in the end", x, 700, 52, 232, 0, 700);
        CHECKS.values("the last text", x, 231);
    }
}
