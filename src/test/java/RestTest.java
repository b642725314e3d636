/** Promise 7, the rest behind data and descriptors, and the extra. */
public final class RestTest {
    private static final Checks CHECKS = new Checks();
    private static final int NULL = GraphReader.NULL;
    private static final int END = GraphReader.END;
    private static final int CORRUPT = GraphReader.CORRUPT;
    private static final String INSTANCE = "73" + Hex.desc("A", 0, 3, Hex.NULL);
    private static final String DESCRIPTOR = Hex.untilRest("X", 0, 2);
    private static final String BOTH = "73" + Hex.desc("B", 0, 3, Hex.desc("A", 0, 3, Hex.NULL));

    public static void main(String[] args) {
        onlyIfItsFlagIsSet();
        emptyRest();
        blocksAndReads();
        blockOfEveryLength();
        longBlockOfEveryLength();
        lengthBelow0();
        blockLongerThanTheBytes();
        restWithoutAnEnd();
        readsOneDeeper();
        restOfTheClassAbove();
        extra();
        extraTooShort();
        extraOnlyFirst();
        extraThatEndsEarly();
        extraAtByte700();
        noExtraOfOtherKinds();
        noExtraOutsideTheChain();
        noExtraInADescriptor();
        extraOfTheLowest();
        CHECKS.end();
    }

    /** A SERIAL class A, and one way to each of the two rests. */
    private static String[] bothRests(String rest, String behind) {
        return new String[] {INSTANCE + rest, DESCRIPTOR + rest + behind};
    }

    private static void passes(String what, String rest) {
        String[] streams = bothRests(rest + "78", Hex.NULL);
        CHECKS.reads(what + ", behind data", 0, Readers.with(Readers.SERIAL), streams[0]);
        CHECKS.reads(what + ", in a descriptor", NULL, Readers.with(Readers.SERIAL), streams[1]);
    }

    private static void fails(String what, int want, String rest) {
        for (String stream : bothRests(rest, "")) {
            CHECKS.fault(what, want, Readers.with(Readers.SERIAL), stream);
        }
    }

    private static void onlyIfItsFlagIsSet() {
        CHECKS.by("Then, if its flag 01 is set: REST");
        for (int flags = 0; flags < 256; flags++) {
            // Flags 04 and 10 are faults of their own.
            if ((flags & 0x14) == 0) {
                GraphReader x = Readers.with(Readers.SERIAL);
                Hex.open(x, "73" + Hex.desc("A", 0, flags, Hex.NULL) + Hex.block("00") + "78");
                CHECKS.same("flags " + flags, x.read(), 0);
                CHECKS.same("bytes that are left, flags " + flags, x.count(4) - x.count(0), (flags & 1) == 0 ? 4 : 0);
            }
        }
    }

    private static void emptyRest() {
        CHECKS.by("until 78, which is passed too.");
        passes("nothing", "");
    }

    private static void blocksAndReads() {
        CHECKS.by("Then what is left is passed over: blocks (77 with one byte, 7A with U4 as a length, below 0: CORRUPT, and so many bytes) and READS one deeper, whose values are dropped, until 78, which is passed too.");
        passes("blocks and reads", Hex.block("7878") + Hex.NULL + Hex.text("x") + Hex.longBlock("787878") + Hex.desc("Y")
                + Hex.block(""));
        GraphReader x = Readers.withFields(Readers.SERIAL, 0);
        CHECKS.reads("an instance", 0, x, "73" + Hex.desc("A", 0, 3, Hex.NULL, Hex.field('B', "a")) + "05"
                + Hex.text("x") + Hex.ref(2) + Hex.ref(1) + "78");
        CHECKS.values("its SLOT", x, 0, 5);
        CHECKS.values("a text whose value is dropped is there", x, 1, 'x');
        CHECKS.same("HANDLES", x.count(1), 3);
    }

    private static void blockOfEveryLength() {
        CHECKS.by("blocks (77 with one byte");
        for (int length = 0; length < 256; length++) {
            passes("a block of " + length, Hex.block("78".repeat(length)));
        }
    }

    private static void longBlockOfEveryLength() {
        CHECKS.by("7A with U4 as a length");
        for (int length : new int[] {0, 1, 127, 128, 255, 256, 600}) {
            passes("a block of " + length, Hex.longBlock("78".repeat(length)));
        }
    }

    private static void lengthBelow0() {
        CHECKS.by("7A with U4 as a length, below 0: CORRUPT");
        for (int length : new int[] {-1, -2, Integer.MIN_VALUE, -65536}) {
            fails("a length of " + length, CORRUPT, "7A" + Hex.u4(length) + "787878");
        }
    }

    private static void blockLongerThanTheBytes() {
        CHECKS.by("and so many bytes)");
        fails("no length", END, "77");
        fails("one byte missing", END, "77" + "03" + "7878");
        fails("254 of 255", END, "77" + "FF" + "78".repeat(254));
        fails("a part of a length", END, "7A" + "000000");
        fails("one byte missing of a long one", END, "7A" + "00000003" + "7878");
        fails("a length that would wrap around", END, "7A" + "7FFFFFFF" + "7878");
    }

    private static void restWithoutAnEnd() {
        CHECKS.by("until 78, which is passed too.");
        fails("nothing", END, "");
        fails("a block", END, Hex.block("78"));
        fails("a read", END, Hex.NULL);
    }

    private static void readsOneDeeper() {
        CHECKS.by("and READS one deeper, whose values are dropped");
        fails("a byte that is no content", CORRUPT, "0078");
        fails("a reset", CORRUPT, "7978");
        fails("an abort", GraphReader.ABORTED, "7B78");
        fails("no such entry", CORRUPT, Hex.ref(9) + "78");
    }

    private static void restOfTheClassAbove() {
        CHECKS.by("Then for the DESCRIPTOR and those above it, topmost first, the DATA.");
        GraphReader x = Readers.with(Readers.SERIAL);
        x.define(1, Readers.SERIAL, 0, 0);
        x.field(1, 0, 0);
        CHECKS.reads("a rest before the lower one's field", 0, x, "73" + Hex.desc("B", 0, 2,
                Hex.desc("A", 0, 3, Hex.NULL), Hex.field('B', "a")) + Hex.block("0102") + "78" + "09");
        CHECKS.values("the lower one's field", x, 0, 9);
    }

    private static void extraIs(String what, int want, String rest) {
        GraphReader x = Readers.with(Readers.CUSTOM);
        CHECKS.reads(what, 0, x, INSTANCE + rest + "78");
        CHECKS.same(what + ", the EXTRA", x.object(0, 3), want);
    }

    private static void extra() {
        CHECKS.by("and the next byte is 77 and its length 4 or more, the first four bytes of it are the EXTRA.");
        extraIs("a length of 4", 0x01020304, Hex.block("01020304"));
        extraIs("a length of 5", 0x01020304, Hex.block("0102030405"));
        extraIs("a length of 128", 9, Hex.block("00000009" + "11".repeat(124)));
        extraIs("a length of 255", 9, Hex.block("00000009" + "11".repeat(251)));
        extraIs("below 0", -2, Hex.block("FFFFFFFE"));
        extraIs("the lowest", Integer.MIN_VALUE, Hex.block("80000000"));
        extraIs("the highest", Integer.MAX_VALUE, Hex.block("7FFFFFFF"));
    }

    private static void extraTooShort() {
        CHECKS.by("and the next byte is 77 and its length 4 or more, the first four bytes of it are the EXTRA.");
        extraIs("nothing", 0, "");
        extraIs("a length of 0", 0, Hex.block(""));
        extraIs("a length of 1", 0, Hex.block("01"));
        extraIs("a length of 3", 0, Hex.block("010203"));
    }

    private static void extraOnlyFirst() {
        CHECKS.by("and the next byte is 77 and its length 4 or more, the first four bytes of it are the EXTRA.");
        extraIs("a long block", 0, Hex.longBlock("01020304"));
        extraIs("behind NULL", 0, Hex.NULL + Hex.block("01020304"));
        extraIs("behind a block", 0, Hex.block("") + Hex.block("01020304"));
        extraIs("before a block", 0x01020304, Hex.block("01020304") + Hex.block("05060708"));
    }

    private static void extraThatEndsEarly() {
        CHECKS.by("Whatever needs a byte where there is none is the fault END.");
        for (String rest : new String[] {"", "77", "7704", "770401", "7704010203", "770401020304", "770501020304"}) {
            CHECKS.fault("a rest of " + rest, END, Readers.with(Readers.CUSTOM), INSTANCE + rest);
        }
    }

    private static void extraAtByte700() {
        CHECKS.by("Whatever needs a byte where there is none is the fault END.");
        for (int left = 0; left <= 6; left++) {
            String rest = "770400000000".substring(0, 2 * left);
            GraphReader x = Readers.with(Readers.CUSTOM);
            Hex.open(x, Hex.text("a".repeat(693 - Hex.size(INSTANCE + rest))), INSTANCE + rest);
            x.read();
            CHECKS.same("BYTES", x.count(4), 700);
            CHECKS.same("a rest that is cut behind " + left, x.read(), END);
        }
    }

    private static void noExtraOfOtherKinds() {
        CHECKS.by("if the local class is CUSTOM and in the CHAIN");
        for (int kind : new int[] {Readers.SERIAL, Readers.RECORD}) {
            GraphReader x = Readers.with(kind);
            CHECKS.reads("kind " + kind, 0, x, INSTANCE + Hex.block("01020304") + "78");
            CHECKS.same("no EXTRA of kind " + kind, x.object(0, 3), 0);
        }
        GraphReader without = Readers.with(Readers.CUSTOM);
        Hex.open(without, "73" + Hex.desc("A") + Hex.block("01020304"));
        CHECKS.same("an instance without a rest", without.read(), 0);
        CHECKS.same("no EXTRA without a rest", without.object(0, 3), 0);
        CHECKS.same("the block is left", without.passBlock(), 4);
    }

    private static void noExtraOutsideTheChain() {
        CHECKS.by("if the local class is CUSTOM and in the CHAIN");
        GraphReader x = Readers.with(Readers.CUSTOM, Readers.CUSTOM);
        CHECKS.reads("a CUSTOM class above that ours does not have", 0, x, BOTH + Hex.block("00000001") + "78" + "78");
        CHECKS.same("no EXTRA", x.object(0, 3), 0);
        GraphReader y = Readers.fresh();
        y.define(1, Readers.CUSTOM, -1, 0);
        CHECKS.reads("a class above that is not there", 0, y, BOTH + Hex.block("00000001") + "78" + "78");
        CHECKS.same("no EXTRA", y.object(0, 3), 0);
    }

    private static void noExtraInADescriptor() {
        CHECKS.by("Then REST without an EXTRA,");
        GraphReader x = Readers.with(Readers.CUSTOM);
        CHECKS.reads("an instance", 0, x,
                "73" + Hex.untilRest("A", 0, 2) + Hex.block("01020304") + "78" + Hex.NULL);
        CHECKS.same("no EXTRA", x.object(0, 3), 0);
    }

    private static void extraOfTheLowest() {
        CHECKS.by("and the next byte is 77 and its length 4 or more, the first four bytes of it are the EXTRA.");
        String[] rests = {Hex.block("00000001") + "78" + Hex.block("00000002") + "78", Hex.block("00000001") + "78" + "78",
            "78" + Hex.block("00000002") + "78"};
        int[] wants = {2, 1, 2};
        for (int k = 0; k < rests.length; k++) {
            GraphReader x = Readers.with(Readers.CUSTOM);
            x.define(1, Readers.CUSTOM, 0, 0);
            CHECKS.reads("two that are CUSTOM, " + k, 0, x, BOTH + rests[k]);
            CHECKS.same("the EXTRA, " + k, x.object(0, 3), wants[k]);
        }
        GraphReader above = Readers.with(Readers.CUSTOM);
        above.define(1, Readers.SERIAL, 0, 0);
        CHECKS.reads("CUSTOM above SERIAL", 0, above, BOTH + Hex.block("00000001") + "78" + Hex.block("00000002") + "78");
        CHECKS.same("the EXTRA of the upper", above.object(0, 3), 1);
    }
}
