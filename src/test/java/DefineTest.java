/** Promise 2: define. */
public final class DefineTest {
    private static final Checks CHECKS = new Checks();
    private static final int REFUSED = GraphReader.REFUSED;

    public static void main(String[] args) {
        numbersAreTested();
        superclassMustBeThere();
        kindsOverKinds();
        refusedChangesNothing();
        idIsKept();
        definedWhileObjectsAreThere();
        CHECKS.end();
    }

    private static void numbersAreTested() {
        GraphReader x = Readers.fresh();
        CHECKS.same("class -1", x.define(-1, Readers.PLAIN, -1, 0), REFUSED);
        CHECKS.same("class 6", x.define(6, Readers.PLAIN, -1, 0), REFUSED);
        CHECKS.same("class min", x.define(Integer.MIN_VALUE, Readers.PLAIN, -1, 0), REFUSED);
        CHECKS.same("class max", x.define(Integer.MAX_VALUE, Readers.PLAIN, -1, 0), REFUSED);
        CHECKS.same("kind -1", x.define(0, -1, -1, 0), REFUSED);
        CHECKS.same("kind 5", x.define(0, 5, -1, 0), REFUSED);
        CHECKS.same("superclass -2", x.define(0, Readers.PLAIN, -2, 0), REFUSED);
        CHECKS.same("superclass itself", x.define(0, Readers.PLAIN, 0, 0), REFUSED);
        CHECKS.same("superclass max", x.define(0, Readers.PLAIN, Integer.MAX_VALUE, 0), REFUSED);
        for (int number = 0; number < 6; number++) {
            CHECKS.same("class " + number, x.define(number, number % 5, -1, Long.MIN_VALUE), GraphReader.DONE);
            CHECKS.same("class " + number + " again", x.define(number, number % 5, -1, 0), REFUSED);
        }
    }

    private static void superclassMustBeThere() {
        GraphReader x = Readers.fresh();
        CHECKS.same("superclass not there", x.define(3, Readers.SERIAL, 1, 0), REFUSED);
        CHECKS.same("the class", x.define(3, Readers.SERIAL, -1, 0), GraphReader.DONE);
        CHECKS.same("superclass above in number", x.define(1, Readers.SERIAL, 3, 0), REFUSED);
        CHECKS.same("superclass lower", x.define(5, Readers.SERIAL, 3, 0), GraphReader.DONE);
        CHECKS.same("superclass with a superclass", x.define(4, Readers.SERIAL, 3, 0), GraphReader.DONE);
    }

    private static void kindsOverKinds() {
        for (int above = Readers.PLAIN; above <= Readers.RECORD; above++) {
            for (int kind = Readers.PLAIN; kind <= Readers.RECORD; kind++) {
                GraphReader x = Readers.fresh();
                x.define(0, above, -1, 0);
                boolean may = above <= Readers.CUSTOM && kind <= Readers.CUSTOM && (kind != Readers.PLAIN || above == Readers.PLAIN);
                CHECKS.same(kind + " over " + above, x.define(1, kind, 0, 0), may ? GraphReader.DONE : REFUSED);
            }
        }
        GraphReader x = Readers.fresh();
        CHECKS.same("a CONSTANT over none", x.define(0, Readers.CONSTANT, -1, 0), GraphReader.DONE);
        CHECKS.same("a RECORD over none", x.define(1, Readers.RECORD, -1, 0), GraphReader.DONE);
        CHECKS.same("a PLAIN over none", x.define(2, Readers.PLAIN, -1, 0), GraphReader.DONE);
    }

    private static void refusedChangesNothing() {
        GraphReader x = Readers.fresh();
        x.define(0, Readers.RECORD, -1, 0);
        x.define(1, Readers.SERIAL, 0, 0);
        CHECKS.same("a refused class is not there", x.field(1, 0, 0), REFUSED);
        x.define(0, Readers.SERIAL, -1, 7);
        CHECKS.fault("a class keeps its id", GraphReader.BAD_CLASS, x, "73" + Hex.desc("A", 7, 2, Hex.NULL));
    }

    private static void idIsKept() {
        long id = 0x8123456789ABCDEFL;
        for (int bit = 0; bit < 64; bit++) {
            GraphReader x = Readers.fresh();
            x.define(5, Readers.SERIAL, -1, id);
            CHECKS.fault("another id by bit " + bit, GraphReader.BAD_CLASS, x,
                    "73" + Hex.desc("F", id ^ 1L << bit, 2, Hex.NULL));
        }
        GraphReader x = Readers.fresh();
        x.define(5, Readers.SERIAL, -1, id);
        CHECKS.reads("the same id", 0, x, "73" + Hex.desc("F", id, 2, Hex.NULL));
    }

    private static void definedWhileObjectsAreThere() {
        GraphReader x = Readers.fresh();
        Hex.open(x, Hex.text("a"), "73" + Hex.desc("A", 0, 2, Hex.NULL));
        CHECKS.same("a text", x.read(), 0);
        CHECKS.same("define", x.define(0, Readers.SERIAL, -1, 0), GraphReader.DONE);
        CHECKS.same("an instance", x.read(), 1);
    }
}
