/** Promises 5 and 6: put and begin. */
public final class PutAndBeginTest {
    private static final Checks CHECKS = new Checks();
    private static final int REFUSED = GraphReader.REFUSED;
    private static final int END = GraphReader.END;
    private static final int CORRUPT = GraphReader.CORRUPT;

    public static void main(String[] args) {
        putTestsItsCount();
        putTakesTheLowestHighestFirst();
        putEndsAt700();
        beginNeedsFour();
        beginNeedsTheHeader();
        beginEmpties();
        faultOfBeginEmptiesToo();
        CHECKS.end();
    }

    private static void putTestsItsCount() {
        GraphReader x = Readers.fresh();
        for (int count : new int[] {Integer.MIN_VALUE, -1, 0, 9, Integer.MAX_VALUE}) {
            CHECKS.same("put of " + count, x.put(0, count), REFUSED);
        }
        CHECKS.same("BYTES", x.count(4), 0);
        CHECKS.same("put of 1", x.put(-1, 1), 1);
        CHECKS.same("put of 8", x.put(-1, 8), 9);
        CHECKS.same("BYTES", x.count(4), 9);
    }

    private static void putTakesTheLowestHighestFirst() {
        for (int count = 1; count <= 8; count++) {
            GraphReader x = Readers.fresh();
            Hex.put(x, Hex.HEADER + "74" + Hex.u2(count));
            CHECKS.same("put", x.put(0x4142434445464748L, count), 7 + count);
            x.begin();
            CHECKS.same("the text", x.read(), 0);
            for (int k = 0; k < count; k++) {
                CHECKS.same("sign " + k + " of " + count, x.value(0, k), 0x48 - count + 1 + k);
            }
        }
    }

    private static void putEndsAt700() {
        GraphReader x = Readers.fresh();
        for (int k = 1; k <= 87; k++) {
            CHECKS.same("put", x.put(0, 8), 8 * k);
        }
        CHECKS.same("up to 701", x.put(0, 5), REFUSED);
        CHECKS.same("up to 704", x.put(0, 8), REFUSED);
        CHECKS.same("BYTES", x.count(4), 696);
        CHECKS.same("up to 700", x.put(0, 4), 700);
        CHECKS.same("one more", x.put(0, 1), REFUSED);
        CHECKS.same("BYTES", x.count(4), 700);
    }

    private static void beginNeedsFour() {
        String[] starts = {"", "AC", "ACED", "ACED00", "000000"};
        for (String start : starts) {
            GraphReader x = Readers.fresh();
            Hex.put(x, start);
            CHECKS.same("begin at " + start, x.begin(), END);
            CHECKS.same("what lasts", x.count(3), END);
            CHECKS.same("PLACE", x.count(0), 0);
            CHECKS.same("read", x.read(), END);
            CHECKS.same("passBlock", x.passBlock(), END);
        }
        GraphReader x = Readers.fresh();
        Hex.put(x, "ACED00");
        x.begin();
        Hex.put(x, "0570");
        CHECKS.same("it lasts in spite of more bytes", x.read(), END);
        CHECKS.same("begin again", x.begin(), 4);
        CHECKS.same("read", x.read(), GraphReader.NULL);
    }

    private static void beginNeedsTheHeader() {
        for (String header : new String[] {"ADED0005", "ACEC0005", "ACED0105", "ACED0004", "0500EDAC", "2CED0005"}) {
            GraphReader x = Readers.fresh();
            Hex.put(x, header, "7700");
            CHECKS.same("begin at " + header, x.begin(), CORRUPT);
            CHECKS.same("what lasts", x.count(3), CORRUPT);
            CHECKS.same("PLACE", x.count(0), 0);
            CHECKS.same("read", x.read(), CORRUPT);
            CHECKS.same("passBlock", x.passBlock(), CORRUPT);
        }
    }

    private static void beginEmpties() {
        GraphReader x = Readers.fresh();
        Hex.open(x, Hex.text("a"), "00");
        CHECKS.same("PLACE behind the header", x.count(0), 4);
        CHECKS.same("a text", x.read(), 0);
        CHECKS.same("a fault", x.read(), CORRUPT);
        CHECKS.same("begin", x.begin(), 4);
        CHECKS.same("PLACE", x.count(0), 4);
        CHECKS.same("HANDLES", x.count(1), 0);
        CHECKS.same("HEAP", x.count(2), 0);
        CHECKS.same("what lasts", x.count(3), 0);
        CHECKS.same("BYTES", x.count(4), 9);
        CHECKS.same("the object is gone", x.object(0, 0), REFUSED);
        CHECKS.same("its sign is gone", x.value(0, 0), GraphReader.NONE);
        CHECKS.same("the text again", x.read(), 0);
    }

    private static void faultOfBeginEmptiesToo() {
        GraphReader x = Readers.fresh();
        Hex.put(x, Hex.text("a"));
        CHECKS.same("a text without a header", x.read(), 0);
        CHECKS.same("PLACE", x.count(0), 4);
        CHECKS.same("begin", x.begin(), CORRUPT);
        CHECKS.same("PLACE", x.count(0), 0);
        CHECKS.same("HANDLES", x.count(1), 0);
        CHECKS.same("HEAP", x.count(2), 0);
    }
}
