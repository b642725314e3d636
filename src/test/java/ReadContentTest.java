/** Promise 7, what each first byte of a read decides: null, references, texts, resets, and the bytes that may not be there. */
public final class ReadContentTest {
    private static final Checks CHECKS = new Checks();
    private static final int NULL = GraphReader.NULL;
    private static final int END = GraphReader.END;
    private static final int CORRUPT = GraphReader.CORRUPT;

    public static void main(String[] args) {
        everyFirstByte();
        everyByteWithin();
        texts();
        references();
        resets();
        aReadOfADescriptor();
        readsBeforeBegin();
        optionalDoesNotLast();
        faultsUndoAll();
        asManyObjectsAsBytesAllow();
        CHECKS.end();
    }

    private static void everyFirstByte() {
        for (int tag = 0; tag < 256; tag++) {
            int want = CORRUPT;
            if (tag == 0x70) {
                want = NULL;
            } else if (tag >= 0x71 && tag <= 0x75 || tag == 0x79 || tag == 0x7E) {
                want = END;
            } else if (tag == 0x77 || tag == 0x78 || tag == 0x7A) {
                want = GraphReader.OPTIONAL;
            } else if (tag == 0x7B) {
                want = GraphReader.ABORTED;
            }
            GraphReader x = Readers.fresh();
            Hex.open(x, Hex.u1(tag));
            CHECKS.same("the byte " + Hex.u1(tag), x.read(), want);
        }
        CHECKS.fault("no byte", END, Readers.fresh());
    }

    private static void everyByteWithin() {
        for (int tag = 0; tag < 256; tag++) {
            int want = CORRUPT;
            if (tag == 0x70) {
                want = 0;
            } else if (tag >= 0x71 && tag <= 0x75 || tag == 0x7E) {
                want = END;
            } else if (tag == 0x7B) {
                want = GraphReader.ABORTED;
            }
            GraphReader x = Readers.fresh();
            Hex.open(x, Hex.refs(Hex.u1(tag)));
            CHECKS.same("within another, the byte " + Hex.u1(tag), x.read(), want);
        }
    }

    private static void texts() {
        GraphReader x = Readers.fresh();
        Hex.open(x, Hex.text(""), Hex.text("\u0001\u007F"), Hex.text("a".repeat(300)));
        for (int k = 0; k < 3; k++) {
            CHECKS.same("text " + k, x.read(), k);
            CHECKS.same("HANDLES", x.count(1), k + 1);
        }
        CHECKS.same("no sign", x.object(0, 2), 0);
        CHECKS.same("the lowest sign", x.value(1, 0), 1);
        CHECKS.same("the highest sign", x.value(1, 1), 127);
        CHECKS.same("many signs", x.object(2, 2), 300);
        CHECKS.fault("a sign 00", CORRUPT, Readers.fresh(), "7400026100");
        CHECKS.fault("a sign 80", CORRUPT, Readers.fresh(), "7400028061");
        CHECKS.fault("a sign FF", CORRUPT, Readers.fresh(), "740001FF");
        CHECKS.fault("no length", END, Readers.fresh(), "7400");
        CHECKS.fault("a sign is missing", END, Readers.fresh(), "74000261");
        CHECKS.fault("a wrong sign before one is missing", CORRUPT, Readers.fresh(), "740003FF");
        CHECKS.fault("the length is not below 0", END, Readers.fresh(), "74FFFF61");
    }

    private static void references() {
        GraphReader x = Readers.fresh();
        Hex.open(x, Hex.text("a"), Hex.text("b"), Hex.ref(0), Hex.ref(1), Hex.refs(Hex.ref(3), Hex.ref(1)), Hex.ref(3));
        int[] answers = {0, 1, 0, 1, 2, 2};
        for (int k = 0; k < answers.length; k++) {
            CHECKS.same("read " + k, x.read(), answers[k]);
        }
        CHECKS.same("a ring", x.value(2, 0), 2);
        CHECKS.same("a shared object", x.value(2, 1), 1);
        CHECKS.same("no new handles", x.count(1), 4);
        for (int handle : new int[] {1, -1, 2, 0x7F820000, -0x7E0000, 0x80000000 - 0x7E0000}) {
            GraphReader y = Readers.fresh();
            Hex.open(y, Hex.text("a"), Hex.ref(handle));
            y.read();
            CHECKS.same("a reference to " + handle, y.read(), CORRUPT);
        }
        CHECKS.fault("a part of a reference", END, Readers.fresh(), "71007E00");
        GraphReader z = Readers.fresh();
        Hex.open(z, Hex.desc("X", 0, 2, Hex.NULL), Hex.ref(0));
        CHECKS.same("a descriptor", z.read(), NULL);
        CHECKS.same("a reference to a descriptor", z.read(), CORRUPT);
        CHECKS.fault("a descriptor that is not all read", CORRUPT, Readers.fresh(),
                "7200015800000000000000000200004C" + Hex.utf("a") + Hex.ref(0));
    }

    private static void resets() {
        GraphReader x = Readers.fresh();
        Hex.open(x, Hex.text("a"), "79" + Hex.text("b"), Hex.ref(0), "7979" + Hex.NULL, Hex.ref(0));
        CHECKS.same("a", x.read(), 0);
        CHECKS.same("b behind a reset", x.read(), 1);
        CHECKS.same("HANDLES", x.count(1), 1);
        CHECKS.same("HEAP", x.count(2), 2);
        CHECKS.same("handle 0 is b", x.read(), 1);
        CHECKS.same("two resets", x.read(), NULL);
        CHECKS.same("HANDLES", x.count(1), 0);
        CHECKS.same("no handle 0", x.read(), CORRUPT);
        GraphReader y = Readers.fresh();
        Hex.open(y, Hex.text("a"), "7900");
        y.read();
        CHECKS.same("a fault behind a reset", y.read(), CORRUPT);
        CHECKS.same("HANDLES as before", y.count(1), 1);
        CHECKS.same("PLACE as before", y.count(0), 8);
        GraphReader z = Readers.fresh();
        Hex.open(z, Hex.text("a"), Hex.text("b"), "7978", Hex.ref(1));
        z.read();
        z.read();
        CHECKS.same("OPTIONAL behind a reset", z.read(), GraphReader.OPTIONAL);
        CHECKS.same("HANDLES as before", z.count(1), 2);
        CHECKS.same("PLACE as before", z.count(0), 12);
        CHECKS.same("the bytes as before", z.passBlock(), GraphReader.REFUSED);
        CHECKS.fault("resets up to the end", END, Readers.fresh(), "79".repeat(696));
        CHECKS.reads("many resets", NULL, Readers.fresh(), "79".repeat(695) + Hex.NULL);
        CHECKS.fault("a reset within", CORRUPT, Readers.fresh(), Hex.refs("7970"));
    }

    private static void aReadOfADescriptor() {
        GraphReader x = Readers.fresh();
        CHECKS.reads("a descriptor", NULL, x, Hex.desc("X", 1, 2, Hex.desc("Y", 2, 2, Hex.NULL)));
        CHECKS.same("its handles", x.count(1), 2);
        CHECKS.same("no object", x.count(2), 0);
        GraphReader y = Readers.fresh();
        CHECKS.reads("a descriptor as a place", 0, y, Hex.refs(Hex.desc("X", 1, 2, Hex.NULL)));
        CHECKS.same("it gives NULL", y.value(0, 0), NULL);
    }

    private static void readsBeforeBegin() {
        GraphReader x = Readers.fresh();
        Hex.put(x, Hex.text("a"), Hex.block("00"));
        CHECKS.same("a text at PLACE 0", x.read(), 0);
        CHECKS.same("a block", x.passBlock(), 1);
        GraphReader y = Readers.fresh();
        Hex.put(y, Hex.HEADER);
        CHECKS.same("a header is no content", y.read(), CORRUPT);
    }

    private static void optionalDoesNotLast() {
        for (String tag : new String[] {"77", "78", "7A"}) {
            GraphReader x = Readers.fresh();
            Hex.open(x, tag);
            CHECKS.same("a read at " + tag, x.read(), GraphReader.OPTIONAL);
            CHECKS.same("what lasts", x.count(3), 0);
            CHECKS.same("PLACE", x.count(0), 4);
        }
    }

    private static void faultsUndoAll() {
        GraphReader x = Readers.fresh();
        x.define(0, 1, -1, 0);
        x.field(0, 0, 7);
        Hex.open(x, Hex.text("a"), "73" + Hex.desc("A", 0, 2, Hex.NULL, Hex.field('L', "a", Hex.text("x"))) + Hex.ints(1)
                + "7B");
        CHECKS.same("a text", x.read(), 0);
        CHECKS.same("an instance", x.read(), 2);
        int place = x.count(0);
        int handles = x.count(1);
        CHECKS.same("aborted", x.read(), GraphReader.ABORTED);
        CHECKS.same("PLACE", x.count(0), place);
        CHECKS.same("HANDLES", x.count(1), handles);
        CHECKS.same("HEAP", x.count(2), 4);
        CHECKS.same("the objects stay", x.value(2, 0), 3);
        GraphReader y = Readers.fresh();
        Hex.open(y, Hex.text("a"), Hex.refs(Hex.text("b"), Hex.text("c"), "00"));
        y.read();
        CHECKS.same("a fault behind objects", y.read(), CORRUPT);
        CHECKS.same("HEAP", y.count(2), 1);
        CHECKS.same("HANDLES", y.count(1), 1);
        CHECKS.same("no object 1", y.object(1, 0), GraphReader.REFUSED);
    }

    private static void asManyObjectsAsBytesAllow() {
        GraphReader x = Readers.fresh();
        String texts = Hex.text("").repeat(60);
        Hex.put(x, texts + "79" + texts + "79" + texts + "79" + Hex.text("").repeat(52) + "70");
        CHECKS.same("BYTES", x.count(4), 700);
        for (int k = 0; k < 232; k++) {
            CHECKS.same("text " + k, x.read(), k);
        }
        CHECKS.same("HEAP", x.count(2), 232);
        CHECKS.same("HANDLES", x.count(1), 52);
        CHECKS.same("the last byte", x.read(), NULL);
    }
}
