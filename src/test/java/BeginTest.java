/** Promise 6: begin. */
public final class BeginTest {
    private static final Checks CHECKS = new Checks();
    private static final int END = GraphReader.END;
    private static final int CORRUPT = GraphReader.CORRUPT;

    public static void main(String[] args) {
        passesTheHeader();
        emptiesTheHeap();
        emptiesTheHandles();
        noFaultLasts();
        fewerThanFour();
        fewerThanFourThatAreOthers();
        everyOtherByte();
        faultsLast();
        faultsEmptyToo();
        CHECKS.end();
    }

    private static void passesTheHeader() {
        CHECKS.by("Answers 4.");
        GraphReader x = Readers.fresh();
        Hex.put(x, Hex.HEADER);
        CHECKS.same("begin with four BYTES", x.begin(), 4);
        CHECKS.counts("with four BYTES", x, 4, 0, 0, 0, 4);
        Hex.put(x, Hex.NULL);
        x.read();
        CHECKS.same("begin again", x.begin(), 4);
        CHECKS.same("read again", x.read(), GraphReader.NULL);
    }

    private static void emptiesTheHeap() {
        CHECKS.by("HEAP and HANDLES are empty, and no fault lasts.");
        GraphReader x = Readers.opened(Hex.text("a"));
        x.read();
        x.begin();
        CHECKS.counts("begun again", x, 4, 0, 0, 0, 8);
        CHECKS.same("the object is gone", x.object(0, 0), GraphReader.REFUSED);
        CHECKS.same("its sign is gone", x.value(0, 0), GraphReader.NONE);
        CHECKS.same("the text again", x.read(), 0);
    }

    private static void emptiesTheHandles() {
        CHECKS.by("HEAP and HANDLES are empty, and no fault lasts.");
        GraphReader x = Readers.opened(Hex.desc("X"), Hex.text("a"), Hex.ref(2));
        CHECKS.readsInTurn(x, GraphReader.NULL, 0, CORRUPT);
        x.begin();
        CHECKS.counts("begun again", x, 4, 0, 0, 0);
        CHECKS.readsInTurn(x, GraphReader.NULL, 0, CORRUPT);
        GraphReader y = Readers.opened("79" + Hex.text("a"), "79" + Hex.text("b"));
        CHECKS.readsInTurn(y, 0, 1);
        y.begin();
        CHECKS.counts("begun again behind resets", y, 4, 0, 0, 0);
        CHECKS.readsInTurn(y, 0, 1);
        CHECKS.same("HANDLES", y.count(1), 1);
    }

    private static void noFaultLasts() {
        CHECKS.by("HEAP and HANDLES are empty, and no fault lasts.");
        GraphReader x = Readers.opened(Hex.NULL, "00");
        x.read();
        CHECKS.same("a fault", x.read(), CORRUPT);
        CHECKS.same("begin", x.begin(), 4);
        CHECKS.same("what lasts", x.count(3), 0);
        CHECKS.same("a read", x.read(), GraphReader.NULL);
    }

    private static void fewerThanFour() {
        CHECKS.by("Fewer than four BYTES: END");
        for (String start : new String[] {"", "AC", "ACED", "ACED00"}) {
            GraphReader x = Readers.fresh();
            Hex.put(x, start);
            CHECKS.same("begin at " + start, x.begin(), END);
            CHECKS.counts("at " + start, x, 0, 0, 0, END, Hex.size(start));
        }
    }

    private static void fewerThanFourThatAreOthers() {
        CHECKS.by("Fewer than four BYTES: END");
        for (String start : new String[] {"00", "ACEC", "000000"}) {
            GraphReader x = Readers.fresh();
            Hex.put(x, start);
            CHECKS.same("begin at " + start, x.begin(), END);
        }
    }

    private static void everyOtherByte() {
        CHECKS.by("these four are others: CORRUPT");
        int[] header = {0xAC, 0xED, 0x00, 0x05};
        for (int at = 0; at < 4; at++) {
            for (int other = 0; other < 256; other++) {
                GraphReader x = Readers.fresh();
                for (int k = 0; k < 4; k++) {
                    x.put(k == at ? other : header[k], 1);
                }
                CHECKS.same("byte " + at + " is " + other, x.begin(), other == header[at] ? 4 : CORRUPT);
            }
        }
    }

    private static void faultsLast() {
        CHECKS.by("(both last, PLACE is 0)");
        GraphReader x = Readers.fresh();
        Hex.put(x, "ACED00");
        x.begin();
        Hex.put(x, "0570");
        CHECKS.same("END, a read", x.read(), END);
        CHECKS.same("END, passBlock", x.passBlock(), END);
        CHECKS.counts("END", x, 0, 0, 0, END, 5);
        CHECKS.same("begin with more BYTES", x.begin(), 4);
        CHECKS.same("a read behind it", x.read(), GraphReader.NULL);
        GraphReader y = Readers.fresh();
        Hex.put(y, "7700ED0005");
        CHECKS.same("begin", y.begin(), CORRUPT);
        CHECKS.same("CORRUPT, a read", y.read(), CORRUPT);
        CHECKS.same("CORRUPT, passBlock at a block", y.passBlock(), CORRUPT);
        CHECKS.counts("CORRUPT", y, 0, 0, 0, CORRUPT, 5);
        CHECKS.same("begin again", y.begin(), CORRUPT);
    }

    private static void faultsEmptyToo() {
        CHECKS.by("PLACE is 0; AC ED 00 05 is passed; HEAP and HANDLES are empty, and no fault lasts.");
        GraphReader x = Readers.fresh();
        Hex.put(x, Hex.text(""));
        CHECKS.same("a text without a header", x.read(), 0);
        CHECKS.same("begin with three BYTES", x.begin(), END);
        CHECKS.counts("END", x, 0, 0, 0, END, 3);
        GraphReader y = Readers.fresh();
        Hex.put(y, Hex.text("a"));
        CHECKS.same("a text without a header", y.read(), 0);
        CHECKS.same("begin at a text", y.begin(), CORRUPT);
        CHECKS.counts("CORRUPT", y, 0, 0, 0, CORRUPT, 4);
        CHECKS.same("the object is gone", y.object(0, 0), GraphReader.REFUSED);
    }
}
