/** Promise 5: put. */
public final class PutTest {
    private static final Checks CHECKS = new Checks();
    private static final int REFUSED = GraphReader.REFUSED;

    public static void main(String[] args) {
        countOutOfRange();
        lowestBytesHighestFirst();
        behindTheBytes();
        signsOfTheNumber();
        moreThan700();
        exactly700();
        CHECKS.end();
    }

    private static void countOutOfRange() {
        CHECKS.by("The lowest count 1 .. 8 bytes of the number are put behind the BYTES, highest first.");
        GraphReader x = Readers.fresh();
        for (int count : new int[] {Integer.MIN_VALUE, -8, -1, 0, 9, Integer.MAX_VALUE}) {
            CHECKS.same("put of " + count, x.put(0, count), REFUSED);
            CHECKS.same("BYTES", x.count(4), 0);
        }
    }

    private static void lowestBytesHighestFirst() {
        CHECKS.by("The lowest count 1 .. 8 bytes of the number are put behind the BYTES, highest first.");
        for (int count = 1; count <= 8; count++) {
            GraphReader x = Readers.fresh();
            Hex.put(x, Hex.HEADER + "74" + Hex.u2(count));
            CHECKS.same("put of " + count, x.put(0x4142434445464748L, count), 7 + count);
            x.begin();
            x.read();
            for (int k = 0; k < count; k++) {
                CHECKS.same("sign " + k + " of " + count, x.value(0, k), 0x48 - count + 1 + k);
            }
        }
    }

    private static void behindTheBytes() {
        CHECKS.by("Answers how many there are.");
        GraphReader x = Readers.fresh();
        CHECKS.same("a header", x.put(0xACED0005L, 4), 4);
        x.begin();
        CHECKS.same("no byte yet", x.put(0x74, 1), 5);
        CHECKS.same("a length", x.put(1, 2), 7);
        CHECKS.same("a sign", x.put(0x61, 1), 8);
        CHECKS.same("a text put behind begin", x.read(), 0);
        CHECKS.same("BYTES", x.count(4), 8);
    }

    private static void signsOfTheNumber() {
        CHECKS.by("The lowest count 1 .. 8 bytes of the number are put behind the BYTES, highest first.");
        GraphReader x = Readers.fresh();
        Hex.put(x, Hex.HEADER + "75" + Hex.desc("[I") + Hex.u4(4));
        x.put(-1, 8);
        x.put(Long.MIN_VALUE, 8);
        x.begin();
        CHECKS.same("INTS", x.read(), 0);
        CHECKS.values("INTS", x, 0, -1, -1, Integer.MIN_VALUE, 0);
    }

    private static GraphReader with696() {
        GraphReader x = Readers.fresh();
        for (int k = 1; k <= 87; k++) {
            CHECKS.same("put", x.put(0, 8), 8 * k);
        }
        return x;
    }

    private static void moreThan700() {
        CHECKS.by("More than 700: REFUSED.");
        GraphReader x = with696();
        for (int count = 5; count <= 8; count++) {
            CHECKS.same("up to " + (696 + count), x.put(0, count), REFUSED);
            CHECKS.same("BYTES", x.count(4), 696);
        }
    }

    private static void exactly700() {
        CHECKS.by("BYTES are the input, at most 700");
        GraphReader x = with696();
        CHECKS.same("up to 700", x.put(0, 4), 700);
        for (int count = 1; count <= 8; count++) {
            CHECKS.same(count + " more", x.put(0, count), REFUSED);
        }
        CHECKS.same("BYTES", x.count(4), 700);
    }
}
