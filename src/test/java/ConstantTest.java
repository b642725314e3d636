/** Promise 4: constant. */
public final class ConstantTest {
    private static final Checks CHECKS = new Checks();
    private static final int REFUSED = GraphReader.REFUSED;
    private static final int DONE = GraphReader.DONE;

    public static void main(String[] args) {
        numbersAreTested();
        namesOfConstants();
        barring();
        CHECKS.end();
    }

    private static void numbersAreTested() {
        GraphReader x = Readers.withEveryKind();
        CHECKS.same("class -1", x.constant(-1, 0, true), REFUSED);
        CHECKS.same("class 6", x.constant(6, 0, true), REFUSED);
        CHECKS.same("class not there", x.constant(5, 0, true), REFUSED);
        CHECKS.same("name -1", x.constant(3, -1, true), REFUSED);
        CHECKS.same("name 26", x.constant(3, 26, true), REFUSED);
        CHECKS.same("name 32", x.constant(3, 32, true), REFUSED);
        CHECKS.same("no such constant", constantOf(x, "a"), GraphReader.BAD_OBJECT);
        for (int kind : new int[] {0, 1, 2, 4}) {
            CHECKS.same("name not looked at", x.constant(kind, Integer.MIN_VALUE, true), DONE);
            CHECKS.same("name not looked at, off", x.constant(kind, 26, false), DONE);
        }
    }

    private static int constantOf(GraphReader x, String name) {
        Hex.open(x, "7E" + Hex.desc("D", 0, 0x12, Hex.NULL) + Hex.text(name));
        return x.read();
    }

    private static void namesOfConstants() {
        for (int name = 0; name < 26; name++) {
            GraphReader x = Readers.withEveryKind();
            CHECKS.same("constant", x.constant(3, name, name % 2 == 0), DONE);
            CHECKS.same("constant again", x.constant(3, name, name % 2 != 0), DONE);
            CHECKS.same("the constant " + name, constantOf(x, String.valueOf((char) ('a' + name))), 1);
            CHECKS.same("its name", x.object(1, 2), name);
            CHECKS.same("its class", x.object(1, 1), 3);
            GraphReader y = Readers.withEveryKind();
            y.constant(3, name, true);
            String other = String.valueOf((char) ('a' + (name + 1) % 26));
            CHECKS.same("another constant", constantOf(y, other), GraphReader.BAD_OBJECT);
        }
    }

    private static void barring() {
        String[] names = {"A", "B", "C", "D", "E"};
        for (int kind : new int[] {1, 2, 4}) {
            String instance = "73" + Hex.desc(names[kind], 0, 2, Hex.NULL);
            GraphReader x = Readers.withEveryKind();
            x.constant(kind, 0, true);
            CHECKS.fault("barred", GraphReader.LIMIT, x, instance);
            x.constant(kind, 0, false);
            x.begin();
            CHECKS.same("no more barred", x.read(), 0);
        }
        GraphReader plain = Readers.withEveryKind();
        plain.constant(0, 0, true);
        CHECKS.fault("LIMIT before BAD_CLASS", GraphReader.LIMIT, plain, "73" + Hex.desc("A", 0, 2, Hex.NULL));
        GraphReader above = Readers.withEveryKind();
        above.define(5, 1, 1, 0);
        above.constant(1, 0, true);
        CHECKS.reads("only the class itself is asked", 0, above,
                "73" + Hex.desc("F", 0, 2, Hex.desc("B", 0, 2, Hex.NULL)));
        GraphReader later = Readers.withEveryKind();
        Hex.open(later, Hex.desc("B", 0, 2, Hex.NULL), "73" + Hex.ref(0));
        later.read();
        later.constant(1, 0, true);
        CHECKS.same("barred behind its descriptor", later.read(), GraphReader.LIMIT);
    }
}
