/** Promise 2: define. */
public final class DefineTest {
    private static final Checks CHECKS = new Checks();
    private static final int REFUSED = GraphReader.REFUSED;
    private static final int PLAIN = 0;
    private static final int SERIAL = 1;
    private static final int CUSTOM = 2;
    private static final int CONSTANT = 3;
    private static final int RECORD = 4;

    public static void main(String[] args) {
        numbersAreTested();
        superclassMustBeThere();
        kindsOverKinds();
        refusedChangesNothing();
        idIsKept();
        definedWhileObjectsAreThere();
        CHECKS.end();
    }

    private static GraphReader fresh() {
        return new GraphReader(8, 60, 20, 700);
    }

    private static void numbersAreTested() {
        GraphReader x = fresh();
        CHECKS.same("class -1", x.define(-1, PLAIN, -1, 0), REFUSED);
        CHECKS.same("class 6", x.define(6, PLAIN, -1, 0), REFUSED);
        CHECKS.same("class min", x.define(Integer.MIN_VALUE, PLAIN, -1, 0), REFUSED);
        CHECKS.same("class max", x.define(Integer.MAX_VALUE, PLAIN, -1, 0), REFUSED);
        CHECKS.same("kind -1", x.define(0, -1, -1, 0), REFUSED);
        CHECKS.same("kind 5", x.define(0, 5, -1, 0), REFUSED);
        CHECKS.same("superclass -2", x.define(0, PLAIN, -2, 0), REFUSED);
        CHECKS.same("superclass itself", x.define(0, PLAIN, 0, 0), REFUSED);
        CHECKS.same("superclass max", x.define(0, PLAIN, Integer.MAX_VALUE, 0), REFUSED);
        for (int number = 0; number < 6; number++) {
            CHECKS.same("class " + number, x.define(number, number % 5, -1, Long.MIN_VALUE), GraphReader.DONE);
            CHECKS.same("class " + number + " again", x.define(number, number % 5, -1, 0), REFUSED);
        }
    }

    private static void superclassMustBeThere() {
        GraphReader x = fresh();
        CHECKS.same("superclass not there", x.define(3, SERIAL, 1, 0), REFUSED);
        CHECKS.same("the class", x.define(3, SERIAL, -1, 0), GraphReader.DONE);
        CHECKS.same("superclass above in number", x.define(1, SERIAL, 3, 0), REFUSED);
        CHECKS.same("superclass lower", x.define(5, SERIAL, 3, 0), GraphReader.DONE);
        CHECKS.same("superclass with a superclass", x.define(4, SERIAL, 3, 0), GraphReader.DONE);
    }

    private static void kindsOverKinds() {
        for (int above = PLAIN; above <= RECORD; above++) {
            for (int kind = PLAIN; kind <= RECORD; kind++) {
                GraphReader x = fresh();
                x.define(0, above, -1, 0);
                boolean may = above <= CUSTOM && kind <= CUSTOM && (kind != PLAIN || above == PLAIN);
                CHECKS.same(kind + " over " + above, x.define(1, kind, 0, 0), may ? GraphReader.DONE : REFUSED);
            }
        }
        GraphReader x = fresh();
        CHECKS.same("a CONSTANT over none", x.define(0, CONSTANT, -1, 0), GraphReader.DONE);
        CHECKS.same("a RECORD over none", x.define(1, RECORD, -1, 0), GraphReader.DONE);
        CHECKS.same("a PLAIN over none", x.define(2, PLAIN, -1, 0), GraphReader.DONE);
    }

    private static void refusedChangesNothing() {
        GraphReader x = fresh();
        x.define(0, RECORD, -1, 0);
        x.define(1, SERIAL, 0, 0);
        CHECKS.same("a refused class is not there", x.field(1, 0, 0), REFUSED);
        x.define(0, SERIAL, -1, 7);
        CHECKS.fault("a class keeps its id", GraphReader.BAD_CLASS, x, "73" + Hex.desc("A", 7, 2, Hex.NULL));
    }

    private static void idIsKept() {
        long id = 0x8123456789ABCDEFL;
        for (int bit = 0; bit < 64; bit++) {
            GraphReader x = fresh();
            x.define(5, SERIAL, -1, id);
            CHECKS.fault("another id by bit " + bit, GraphReader.BAD_CLASS, x,
                    "73" + Hex.desc("F", id ^ 1L << bit, 2, Hex.NULL));
        }
        GraphReader x = fresh();
        x.define(5, SERIAL, -1, id);
        CHECKS.reads("the same id", 0, x, "73" + Hex.desc("F", id, 2, Hex.NULL));
    }

    private static void definedWhileObjectsAreThere() {
        GraphReader x = fresh();
        Hex.open(x, Hex.text("a"), "73" + Hex.desc("A", 0, 2, Hex.NULL));
        CHECKS.same("a text", x.read(), 0);
        CHECKS.same("define", x.define(0, SERIAL, -1, 0), GraphReader.DONE);
        CHECKS.same("an instance", x.read(), 1);
    }
}
