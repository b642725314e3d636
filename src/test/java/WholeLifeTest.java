/** What it is: an object answers as promised for all of its 512 calls. */
public final class WholeLifeTest {
    private static final Checks CHECKS = new Checks();
    private static final int CALLS = 512;

    public static void main(String[] args) {
        readAgainAndAgain();
        failAgainAndAgain();
        resetAgainAndAgain();
        CHECKS.end();
    }

    private static GraphReader reader() {
        GraphReader x = Readers.withFields(Readers.SERIAL, 7, 7, 7, 7);
        x.define(1, Readers.SERIAL, 0, 0);
        return x;
    }

    /** Fills the 700 bytes up with bytes that no read comes to, and answers how many calls have been made. */
    private static int fill(GraphReader x, String hex) {
        String whole = Hex.HEADER + hex + "00".repeat(696 - Hex.size(hex));
        Hex.put(x, whole);
        CHECKS.same("BYTES", x.count(4), 700);
        // Six calls make the classes and the check above is one.
        return 7 + (700 + 7) / 8;
    }

    /** Instances by one descriptor until the handles are full. */
    private static String manyInstances(int instances) {
        String first = "73" + Hex.desc("A");
        return "75" + Hex.desc(Hex.OBJECTS) + Hex.u4(instances) + first + ("73" + Hex.ref(2)).repeat(instances - 1);
    }

    private static void readAgainAndAgain() {
        CHECKS.by("An object is used for at most 512 calls after it has been made");
        GraphReader x = reader();
        int calls = fill(x, manyInstances(20));
        for (; calls + 2 <= CALLS; calls += 2) {
            CHECKS.same("begin at call " + calls, x.begin(), 4);
            CHECKS.same("read at call " + calls, x.read(), 0);
        }
        CHECKS.counts("in the end", x, 4 + Hex.size(manyInstances(20)), 23, 21, 0, 700);
        CHECKS.same("the last place", x.value(0, 19), 20);
    }

    private static void failAgainAndAgain() {
        CHECKS.by("An object is used for at most 512 calls after it has been made");
        GraphReader x = reader();
        int calls = fill(x, Hex.restsWithin(7) + Hex.text("").repeat(54) + "7B");
        for (; calls + 2 <= CALLS; calls += 2) {
            x.begin();
            CHECKS.same("read at call " + calls, x.read(), GraphReader.LIMIT);
        }
        CHECKS.counts("in the end", x, 4, 0, 0, GraphReader.LIMIT, 700);
    }

    private static void resetAgainAndAgain() {
        CHECKS.by("An object is used for at most 512 calls after it has been made");
        GraphReader x = reader();
        int calls = fill(x, ("79" + Hex.text("")).repeat(173));
        for (int k = 0; calls + 2 < CALLS && k < 173; k++) {
            CHECKS.same("begin or read", k == 0 ? x.begin() : x.read(), k == 0 ? 4 : k - 1);
            calls++;
        }
        CHECKS.same("HANDLES", x.count(1), 1);
        CHECKS.same("HEAP", x.count(2), 172);
    }
}
