/** Promise 8: passBlock. */
public final class PassBlockTest {
    private static final Checks CHECKS = new Checks();
    private static final int REFUSED = GraphReader.REFUSED;
    private static final int END = GraphReader.END;
    private static final int CORRUPT = GraphReader.CORRUPT;

    public static void main(String[] args) {
        blocksArePassed();
        otherBytesAreRefused();
        brokenBlocks();
        aFaultLasts();
        CHECKS.end();
    }

    private static GraphReader opened(String... hex) {
        GraphReader x = Readers.fresh();
        Hex.open(x, hex);
        return x;
    }

    private static void blocksArePassed() {
        GraphReader x = opened(Hex.block(""), Hex.block("0102"), Hex.block("00".repeat(255)), Hex.longBlock(""),
                Hex.longBlock("77".repeat(300)), Hex.text("a"));
        int[] lengths = {0, 2, 255, 0, 300};
        int place = 4;
        for (int k = 0; k < lengths.length; k++) {
            CHECKS.same("block " + k, x.passBlock(), lengths[k]);
            place += lengths[k] + (k < 3 ? 2 : 5);
            CHECKS.same("PLACE", x.count(0), place);
        }
        CHECKS.same("a text behind them", x.read(), 0);
    }

    private static void otherBytesAreRefused() {
        for (int tag = 0; tag < 256; tag++) {
            if (tag != 0x77 && tag != 0x7A) {
                GraphReader x = opened(Hex.u1(tag) + "0000000000");
                CHECKS.same("at " + tag, x.passBlock(), REFUSED);
                CHECKS.same("PLACE", x.count(0), 4);
                CHECKS.same("what lasts", x.count(3), 0);
            }
        }
        GraphReader x = opened("");
        CHECKS.same("at the end", x.passBlock(), REFUSED);
        CHECKS.same("what lasts", x.count(3), 0);
        CHECKS.same("of a new object", Readers.fresh().passBlock(), REFUSED);
        GraphReader full = opened(Hex.longBlock("00".repeat(691)));
        CHECKS.same("a block up to byte 700", full.passBlock(), 691);
        CHECKS.same("at byte 700", full.passBlock(), REFUSED);
        CHECKS.same("a read at byte 700", full.read(), END);
    }

    private static void brokenBlocks() {
        broken("77", END);
        broken("7701", END);
        broken("77FF" + "00".repeat(254), END);
        broken("7A", END);
        broken("7A000000", END);
        broken("7A0000000200", END);
        broken("7A7FFFFFFF00", END);
        broken("7A80000000", CORRUPT);
        broken("7AFFFFFFFF00", CORRUPT);
    }

    private static void broken(String hex, int want) {
        GraphReader x = opened(hex);
        CHECKS.same("passBlock at " + hex, x.passBlock(), want);
        CHECKS.same("what lasts", x.count(3), want);
        CHECKS.same("PLACE", x.count(0), 4);
        CHECKS.same("read", x.read(), want);
        CHECKS.same("passBlock again", x.passBlock(), want);
        CHECKS.same("begin", x.begin(), 4);
        CHECKS.same("what lasts", x.count(3), 0);
    }

    private static void aFaultLasts() {
        GraphReader x = opened("7B");
        x.read();
        CHECKS.same("a fault before REFUSED", x.passBlock(), GraphReader.ABORTED);
        GraphReader y = opened(Hex.block("01"));
        CHECKS.same("read", y.read(), GraphReader.OPTIONAL);
        CHECKS.same("OPTIONAL does not last", y.passBlock(), 1);
    }
}
