/** Promise 8: passBlock. */
public final class PassBlockTest {
    private static final Checks CHECKS = new Checks();
    private static final int REFUSED = GraphReader.REFUSED;
    private static final int END = GraphReader.END;
    private static final int CORRUPT = GraphReader.CORRUPT;

    public static void main(String[] args) {
        aFaultLasts();
        otherBytes();
        noByte();
        blockOfEveryLength();
        longBlocks();
        fullToByte700();
        nothingElseChanges();
        lengthIsMissing();
        bytesAreMissing();
        lengthBelow0();
        theFaultLasts();
        CHECKS.end();
    }

    private static void aFaultLasts() {
        CHECKS.by("A fault lasts: that.");
        GraphReader x = Readers.opened(Hex.NULL, "7B");
        x.read();
        x.read();
        CHECKS.same("at no block", x.passBlock(), GraphReader.ABORTED);
        GraphReader y = Readers.behindTexts(61, Hex.block(""));
        y.read();
        CHECKS.same("at a block", y.passBlock(), GraphReader.LIMIT);
        GraphReader z = Readers.opened("78");
        CHECKS.same("OPTIONAL", z.read(), GraphReader.OPTIONAL);
        CHECKS.same("OPTIONAL does not last", z.passBlock(), REFUSED);
    }

    private static void otherBytes() {
        CHECKS.by("At PLACE is no 77 and no 7A: REFUSED.");
        for (int tag = 0; tag < 256; tag++) {
            if (tag != 0x77 && tag != 0x7A) {
                GraphReader x = Readers.opened(Hex.u1(tag) + "0000000000");
                CHECKS.same("at " + tag, x.passBlock(), REFUSED);
                CHECKS.counts("at " + tag, x, 4, 0, 0, 0, 10);
            }
        }
    }

    private static void noByte() {
        CHECKS.by("At PLACE is no 77 and no 7A: REFUSED.");
        CHECKS.same("of a new object", Readers.fresh().passBlock(), REFUSED);
        GraphReader x = Readers.opened("");
        CHECKS.same("behind the header", x.passBlock(), REFUSED);
        CHECKS.counts("behind the header", x, 4, 0, 0, 0, 4);
        Hex.put(x, Hex.block("01"));
        CHECKS.same("when a block has come", x.passBlock(), 1);
    }

    private static void passes(String block, int length) {
        GraphReader x = Readers.opened(block, Hex.text("a"));
        CHECKS.same("a block of " + length, x.passBlock(), length);
        CHECKS.same("PLACE", x.count(0), 4 + Hex.size(block));
        CHECKS.same("a text behind it", x.read(), 0);
    }

    private static void blockOfEveryLength() {
        CHECKS.by("Else the block is passed as in REST; answers its length");
        for (int length = 0; length < 256; length++) {
            passes(Hex.block("77".repeat(length)), length);
        }
    }

    private static void longBlocks() {
        CHECKS.by("Else the block is passed as in REST; answers its length");
        for (int length : new int[] {0, 1, 4, 127, 128, 255, 256, 300}) {
            passes(Hex.longBlock("7A".repeat(length)), length);
        }
    }

    private static void fullToByte700() {
        CHECKS.by("Else the block is passed as in REST; answers its length");
        GraphReader x = Readers.opened(Hex.longBlock("00".repeat(691)));
        CHECKS.same("a block up to byte 700", x.passBlock(), 691);
        CHECKS.same("PLACE", x.count(0), 700);
        CHECKS.same("at byte 700", x.passBlock(), REFUSED);
        CHECKS.same("a read at byte 700", x.read(), END);
        GraphReader y = Readers.opened("7A" + Hex.u4(692) + "00".repeat(691));
        CHECKS.same("a block up to byte 701", y.passBlock(), END);
    }

    private static void nothingElseChanges() {
        CHECKS.by("Else the block is passed as in REST; answers its length");
        GraphReader x = Readers.opened(Hex.text("a"), Hex.block("74000161"), Hex.ref(0));
        x.read();
        x.passBlock();
        CHECKS.counts("behind a block", x, 14, 1, 1, 0);
        CHECKS.same("a reference behind it", x.read(), 0);
    }

    private static void broken(String hex, int want) {
        GraphReader x = Readers.opened(Hex.text("a"), hex);
        x.read();
        CHECKS.same("passBlock at " + hex, x.passBlock(), want);
        CHECKS.counts("at " + hex, x, 8, 1, 1, want);
    }

    private static void lengthIsMissing() {
        CHECKS.by("or END or CORRUPT, which lasts, PLACE as it was.");
        broken("77", END);
        broken("7A", END);
        broken("7A00", END);
        broken("7A000000", END);
        broken("7AFFFFFF", END);
    }

    private static void bytesAreMissing() {
        CHECKS.by("or END or CORRUPT, which lasts, PLACE as it was.");
        broken("7701", END);
        broken("77FF" + "00".repeat(254), END);
        broken("7A00000001", END);
        broken("7A0000000200", END);
        broken("7A7FFFFFFF00", END);
        broken("7A7FFFFFF80000", END);
    }

    private static void lengthBelow0() {
        CHECKS.by("or END or CORRUPT, which lasts, PLACE as it was.");
        broken("7A80000000", CORRUPT);
        broken("7AFFFFFFFF00", CORRUPT);
        broken("7AFFFF0000", CORRUPT);
    }

    private static void theFaultLasts() {
        CHECKS.by("or END or CORRUPT, which lasts, PLACE as it was.");
        String[] parts = {"7701", "7A80000000"};
        int[] wants = {END, CORRUPT};
        for (int k = 0; k < 2; k++) {
            GraphReader x = Readers.opened(Hex.NULL, parts[k]);
            x.read();
            x.passBlock();
            Hex.put(x, "0000");
            CHECKS.same("a read", x.read(), wants[k]);
            CHECKS.same("passBlock again", x.passBlock(), wants[k]);
            CHECKS.same("begin", x.begin(), 4);
            CHECKS.same("what lasts", x.count(3), 0);
            CHECKS.same("a read behind begin", x.read(), GraphReader.NULL);
        }
    }
}
