import java.util.Random;

/**
 * Promise 7 under bytes that nobody meant: streams with bytes changed, cut and repeated must end in an
 * answer, a fault must leave all as it was, and the same bytes must answer the same again.
 */
public final class HostileBytesTest {
    private static final Checks CHECKS = new Checks();
    private static final int ROUNDS = 60000;
    private static final int READS = 40;

    public static void main(String[] args) {
        CHECKS.by("A READ from outside that ends in a fault leaves HEAP, HANDLES and PLACE as they were before it");
        Random random = new Random(20261115);
        String[] seeds = seeds();
        for (int round = 0; round < ROUNDS; round++) {
            StringBuilder hex = new StringBuilder();
            int parts = 1 + random.nextInt(6);
            for (int k = 0; k < parts; k++) {
                hex.append(seeds[random.nextInt(seeds.length)]);
            }
            spoil(hex, random);
            tryOut(round, reader(random), hex.length() > 1392 ? hex.substring(0, 1392) : hex.toString());
        }
        CHECKS.end();
    }

    private static String[] seeds() {
        String objects = Hex.desc("[Ljava.lang.Object;", 0, 2, Hex.NULL);
        String a = Hex.desc("A", 1, 2, Hex.NULL, Hex.field('I', "a"), Hex.field('L', "b", Hex.text("s")));
        String b = Hex.desc("B", 2, 3, a, Hex.field('[', "c", Hex.text("[I")));
        return new String[] {
            Hex.NULL, "79", "70".repeat(8), Hex.ref(0), Hex.ref(1), Hex.ref(4), Hex.text(""), Hex.text("a"),
            Hex.text("").repeat(30), Hex.block("0102"), Hex.longBlock("0102"), "78", "7B", a, Hex.u4(7), objects,
            Hex.ints(1, 2), Hex.refs(Hex.text("a"), Hex.ref(1)), "73" + a + Hex.u4(5) + Hex.NULL,
            "73" + b + Hex.u4(5) + Hex.text("x") + Hex.ints(3) + Hex.block("00000007") + "78",
            "73" + Hex.ref(0) + Hex.u4(9) + Hex.ref(2), "73" + Hex.desc("E", 1, 2, Hex.NULL, Hex.field('I', "a")) + Hex.u4(2),
            "7E" + Hex.desc("D", 0, 0x12, Hex.NULL) + Hex.text("a"), "75" + objects + Hex.u4(2),
            "72" + Hex.utf("X") + Hex.i8(0) + "02" + "0000", "7870"};
    }

    private static void spoil(StringBuilder hex, Random random) {
        int changes = random.nextInt(4);
        for (int k = 0; k < changes; k++) {
            int at = 2 * random.nextInt(hex.length() / 2);
            int tag = random.nextBoolean() ? 0x70 + random.nextInt(16) : random.nextInt(256);
            hex.replace(at, at + 2, Hex.u1(tag));
        }
        if (random.nextInt(8) == 0) {
            hex.setLength(2 + 2 * random.nextInt(hex.length() / 2));
        }
    }

    private static GraphReader reader(Random random) {
        boolean loose = random.nextInt(4) != 0;
        GraphReader x = loose ? Readers.fresh()
                : new GraphReader(random.nextInt(9), random.nextInt(61), random.nextInt(21), random.nextInt(701));
        x.define(0, 1, -1, 1);
        x.define(1, 2, 0, 2);
        x.define(3, 3, -1, 0);
        x.define(4, 4, -1, 1);
        x.constant(3, 0, true);
        x.field(0, 0, 2);
        x.field(0, 1, 7);
        x.field(1, 2, 6);
        x.field(4, 0, 2);
        return x;
    }

    private static void tryOut(int round, GraphReader x, String hex) {
        Hex.open(x, hex);
        long first = readAll(round, x);
        CHECKS.same("begin in round " + round, x.begin(), 4);
        CHECKS.same("the same again in round " + round, readAll(round, x), first);
    }

    /** Reads and passes blocks up to a fault, and makes one number of all that can be seen. */
    private static long readAll(int round, GraphReader x) {
        long seen = 0;
        for (int k = 0; k < READS && x.count(3) == 0; k++) {
            long before = Readers.seen(x);
            int answer = x.read();
            if (answer < GraphReader.NULL) {
                CHECKS.same("a fault leaves all as it was in round " + round, Readers.seen(x), before);
                int lasting = answer == GraphReader.OPTIONAL ? 0 : answer;
                CHECKS.same("what lasts in round " + round, x.count(3), lasting);
            }
            if (answer == GraphReader.OPTIONAL) {
                answer = x.passBlock();
                k = answer == GraphReader.REFUSED ? READS : k;
            }
            seen = 31 * seen + answer;
            seen = 31 * seen + Readers.seen(x);
        }
        return seen;
    }
}
