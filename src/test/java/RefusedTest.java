/** Terms, the last sentence: refused calls answer REFUSED or NONE and change nothing, whatever the state is. */
public final class RefusedTest {
    private static final Checks CHECKS = new Checks();
    private static final int REFUSED = GraphReader.REFUSED;
    private static final int[] OUTSIDE = {Integer.MIN_VALUE, -3, 60000, Integer.MAX_VALUE};
    // An instance, a block, a constant, a text behind a reset, and an abort, each one read or passed.
    private static final String[] PARTS = {
        "73" + Hex.desc("B", 0, 3, Hex.desc("A", 0, 2, Hex.NULL, Hex.field('I', "a"))) + Hex.u4(5) + Hex.block("00000007") + "78",
        Hex.block("0102"), "7E" + Hex.constantDesc("D") + Hex.text("b"), "79" + Hex.text("xyz"), "7B"};

    public static void main(String[] args) {
        numbersOutOfRange();
        refusedByWhatIsThere();
        refusedWhileObjectsAreThere();
        refusedBeforeBegin();
        twinsStayAlike();
        CHECKS.end();
    }

    /** SERIAL A with its four fields, CUSTOM B below it, CONSTANT D with b; C, E and F are not there. */
    private static GraphReader reader() {
        GraphReader x = Readers.fresh();
        x.define(0, Readers.SERIAL, -1, 0);
        x.define(1, Readers.CUSTOM, 0, 0);
        x.define(3, Readers.CONSTANT, -1, 0);
        Readers.addFields(x, 0, 2, 2, 7, 7);
        x.field(1, 0, 2);
        x.constant(3, 1, true);
        return x;
    }

    private static void bySentence() {
        CHECKS.by("numbers out of range and all that is said to be refused answer REFUSED (NONE if a long) and change nothing.");
    }

    private static void outOfRange(GraphReader x, int number) {
        CHECKS.same("define, number", x.define(number, 1, -1, 0), REFUSED);
        CHECKS.same("define, kind", x.define(2, number, -1, 0), REFUSED);
        CHECKS.same("define, superclass", x.define(2, 1, number, 0), REFUSED);
        CHECKS.same("field, number", x.field(number, 1, 2), REFUSED);
        CHECKS.same("field, name", x.field(1, number, 2), REFUSED);
        CHECKS.same("field, type", x.field(1, 1, number), REFUSED);
        CHECKS.same("constant, number", x.constant(number, 0, true), REFUSED);
        CHECKS.same("constant, name", x.constant(3, number, true), REFUSED);
        CHECKS.same("put, count", x.put(-1, number), REFUSED);
        CHECKS.same("object, object", x.object(number, 0), REFUSED);
        CHECKS.same("object, what", x.object(0, number), REFUSED);
        CHECKS.same("value, object", x.value(number, 0), GraphReader.NONE);
        CHECKS.same("value, k", x.value(0, number), GraphReader.NONE);
        CHECKS.same("count, what", x.count(number), REFUSED);
    }

    private static void refusedByState(GraphReader x) {
        CHECKS.same("a class that is there", x.define(0, 0, -1, 9), REFUSED);
        CHECKS.same("a superclass that is not there", x.define(5, 1, 4, 0), REFUSED);
        CHECKS.same("a superclass that is CONSTANT", x.define(4, 1, 3, 0), REFUSED);
        CHECKS.same("a kind that may not be below", x.define(4, 4, 0, 0), REFUSED);
        CHECKS.same("PLAIN below SERIAL", x.define(4, 0, 0, 0), REFUSED);
        CHECKS.same("a field of a class that is not there", x.field(4, 0, 0), REFUSED);
        CHECKS.same("a field of a CONSTANT class", x.field(3, 0, 0), REFUSED);
        CHECKS.same("a fifth field", x.field(0, 20, 0), REFUSED);
        CHECKS.same("a field of the same name", x.field(1, 0, 7), REFUSED);
        CHECKS.same("a constant of a class that is not there", x.constant(4, 0, true), REFUSED);
    }

    private static void allRefused(GraphReader x) {
        for (int number : OUTSIDE) {
            outOfRange(x, number);
        }
        refusedByState(x);
    }

    private static void numbersOutOfRange() {
        bySentence();
        GraphReader x = reader();
        for (int number : OUTSIDE) {
            outOfRange(x, number);
            CHECKS.counts("behind " + number, x, 0, 0, 0, 0, 0);
        }
    }

    private static void refusedByWhatIsThere() {
        bySentence();
        GraphReader x = reader();
        refusedByState(x);
        CHECKS.same("define of a class refused before", x.define(4, Readers.RECORD, -1, 0), GraphReader.DONE);
        CHECKS.same("field of it", x.field(4, 0, 2), 1);
        CHECKS.same("another field of a class that refused one", x.field(1, 1, 7), 2);
    }

    private static void refusedWhileObjectsAreThere() {
        bySentence();
        GraphReader x = reader();
        Hex.open(x, Hex.text("a"));
        x.read();
        long seen = Readers.seen(x);
        CHECKS.same("a field", x.field(1, 1, 2), REFUSED);
        CHECKS.same("passBlock at the end", x.passBlock(), REFUSED);
        allRefused(x);
        CHECKS.same("all that can be seen", Readers.seen(x), seen);
        x.begin();
        CHECKS.same("the field, begun again", x.field(1, 1, 2), 2);
    }

    private static void refusedBeforeBegin() {
        bySentence();
        GraphReader x = reader();
        allRefused(x);
        CHECKS.same("passBlock", x.passBlock(), REFUSED);
        Hex.open(x, PARTS);
        CHECKS.same("an instance", x.read(), 0);
        CHECKS.values("its SLOTS", x, 0, 5, 0, GraphReader.NULL, GraphReader.NULL, 0);
    }

    /** One of two readers gets refused calls between all others, and must answer as the other does. */
    private static void twinsStayAlike() {
        bySentence();
        GraphReader plain = reader();
        GraphReader nagged = reader();
        for (String part : new String[] {Hex.HEADER, String.join("", PARTS)}) {
            Hex.put(plain, part);
            allRefused(nagged);
            Hex.put(nagged, part);
        }
        for (int turn = 0; turn < 2; turn++) {
            alike(plain.begin(), nagged.begin(), plain, nagged);
            for (int k = 0; k < PARTS.length; k++) {
                if (k == 1) {
                    alike(plain.read(), nagged.read(), plain, nagged);
                    alike(plain.passBlock(), nagged.passBlock(), plain, nagged);
                } else {
                    CHECKS.same("passBlock at part " + k, nagged.passBlock(), REFUSED);
                    alike(plain.read(), nagged.read(), plain, nagged);
                }
            }
        }
        CHECKS.counts("in the end", nagged, plain.count(0), 1, 4, GraphReader.ABORTED, plain.count(4));
    }

    private static void alike(int want, int got, GraphReader plain, GraphReader nagged) {
        CHECKS.same("the answer", got, want);
        allRefused(nagged);
        CHECKS.same("what lasts", nagged.count(3), plain.count(3));
        CHECKS.same("BYTES", nagged.count(4), plain.count(4));
        CHECKS.same("all that can be seen", Readers.seen(nagged), Readers.seen(plain));
    }
}
