/** Promise 2: define. */
public final class DefineTest {
    private static final Checks CHECKS = new Checks();
    private static final int REFUSED = GraphReader.REFUSED;
    private static final int DONE = GraphReader.DONE;

    public static void main(String[] args) {
        numberOutOfRange();
        everyNumber();
        classThatIsThere();
        kindOutOfRange();
        superclassOutOfRange();
        superclassNotThere();
        superclassOfEveryKind();
        kindOverNone();
        refusedIsNotThere();
        idIsALong();
        definedWhileObjectsAreThere();
        CHECKS.end();
    }

    private static void numberOutOfRange() {
        CHECKS.by("Class 0 .. 5");
        GraphReader x = Readers.fresh();
        for (int number : new int[] {Integer.MIN_VALUE, -1, 6, Integer.MAX_VALUE}) {
            CHECKS.same("class " + number, x.define(number, Readers.PLAIN, -1, 0), REFUSED);
        }
    }

    private static void everyNumber() {
        CHECKS.by("Class 0 .. 5");
        GraphReader x = Readers.fresh();
        for (int number = 5; number >= 0; number--) {
            CHECKS.same("class " + number, x.define(number, number % 5, -1, 0), DONE);
        }
    }

    private static void classThatIsThere() {
        CHECKS.by("Class 0 .. 5, not there");
        GraphReader x = Readers.with(Readers.RECORD);
        x.field(0, 3, 2);
        for (int kind = Readers.PLAIN; kind <= Readers.RECORD; kind++) {
            CHECKS.same("kind " + kind + " again", x.define(0, kind, -1, 7), REFUSED);
        }
        CHECKS.same("its FIELD stays", x.field(0, 3, 2), REFUSED);
        CHECKS.reads("its ID stays", 0, x, "73" + Hex.desc("A"));
        CHECKS.same("its SLOT stays", x.object(0, 2), 1);
        CHECKS.same("its KIND stays", x.define(1, Readers.SERIAL, 0, 0), REFUSED);
    }

    private static void kindOutOfRange() {
        CHECKS.by("KIND 0 .. 4");
        GraphReader x = Readers.fresh();
        for (int kind : new int[] {Integer.MIN_VALUE, -1, 5, Integer.MAX_VALUE}) {
            CHECKS.same("kind " + kind, x.define(0, kind, -1, 0), REFUSED);
            x.define(1, Readers.SERIAL, -1, 0);
            CHECKS.same("kind " + kind + " over another", x.define(2, kind, 1, 0), REFUSED);
        }
    }

    private static void superclassOutOfRange() {
        CHECKS.by("superclass -1 or a lower number whose class is there");
        GraphReader x = Readers.fresh();
        x.define(5, Readers.SERIAL, -1, 0);
        for (int superclass : new int[] {Integer.MIN_VALUE, -2, 4, 5, 6, Integer.MAX_VALUE}) {
            CHECKS.same("superclass " + superclass, x.define(4, Readers.SERIAL, superclass, 0), REFUSED);
        }
    }

    private static void superclassNotThere() {
        CHECKS.by("superclass -1 or a lower number whose class is there");
        GraphReader x = Readers.fresh();
        for (int superclass = 0; superclass < 4; superclass++) {
            CHECKS.same("superclass " + superclass, x.define(4, Readers.SERIAL, superclass, 0), REFUSED);
        }
        x.define(2, Readers.SERIAL, -1, 0);
        CHECKS.same("superclass not there", x.define(4, Readers.SERIAL, 3, 0), REFUSED);
        CHECKS.same("superclass there", x.define(4, Readers.SERIAL, 2, 0), DONE);
        CHECKS.same("superclass one lower", x.define(5, Readers.SERIAL, 4, 0), DONE);
        CHECKS.same("the same superclass again", x.define(3, Readers.SERIAL, 2, 0), DONE);
    }

    private static void superclassOfEveryKind() {
        CHECKS.by("a superclass must be PLAIN, SERIAL or CUSTOM, and the KIND then too, PLAIN only over PLAIN. DONE.");
        // A row for the superclass's kind, a column for the class's own.
        int[][] wants = {
            {DONE, DONE, DONE, REFUSED, REFUSED},
            {REFUSED, DONE, DONE, REFUSED, REFUSED},
            {REFUSED, DONE, DONE, REFUSED, REFUSED},
            {REFUSED, REFUSED, REFUSED, REFUSED, REFUSED},
            {REFUSED, REFUSED, REFUSED, REFUSED, REFUSED}};
        for (int above = Readers.PLAIN; above <= Readers.RECORD; above++) {
            for (int kind = Readers.PLAIN; kind <= Readers.RECORD; kind++) {
                GraphReader x = Readers.with(above);
                CHECKS.same(kind + " over " + above, x.define(1, kind, 0, 0), wants[above][kind]);
            }
        }
    }

    private static void kindOverNone() {
        CHECKS.by("superclass -1 or a lower number whose class is there");
        for (int kind = Readers.PLAIN; kind <= Readers.RECORD; kind++) {
            GraphReader x = Readers.fresh();
            CHECKS.same(kind + " over none", x.define(5, kind, -1, 0), DONE);
        }
    }

    private static void refusedIsNotThere() {
        CHECKS.by("numbers out of range and all that is said to be refused answer REFUSED (NONE if a long) and change nothing.");
        GraphReader x = Readers.with(Readers.RECORD);
        x.define(1, Readers.SERIAL, 0, 0);
        x.define(2, 5, -1, 0);
        x.define(3, Readers.SERIAL, 2, 0);
        for (int number = 1; number < 4; number++) {
            CHECKS.same("field of class " + number, x.field(number, 0, 0), REFUSED);
            CHECKS.same("constant of class " + number, x.constant(number, 0, true), REFUSED);
        }
    }

    private static void idIsALong() {
        CHECKS.by("an ID, a long");
        for (long id : new long[] {Long.MIN_VALUE, -1, 0, 1, Long.MAX_VALUE, 0x8123456789ABCDEFL}) {
            CHECKS.same("the same id " + id, instanceOf(id, id), 0);
            for (int bit = 0; bit < 64; bit++) {
                CHECKS.same("another id by bit " + bit, instanceOf(id, id ^ 1L << bit), GraphReader.BAD_CLASS);
            }
        }
    }

    private static int instanceOf(long ours, long theirs) {
        GraphReader x = Readers.fresh();
        x.define(5, Readers.SERIAL, -1, ours);
        Hex.open(x, "73" + Hex.desc("F", theirs, 2, Hex.NULL));
        return x.read();
    }

    private static void definedWhileObjectsAreThere() {
        CHECKS.by("Class 0 .. 5, not there");
        GraphReader x = Readers.opened(Hex.text("a"), "73" + Hex.desc("A"));
        CHECKS.same("a text", x.read(), 0);
        CHECKS.same("define", x.define(0, Readers.SERIAL, -1, 0), DONE);
        CHECKS.same("an instance", x.read(), 1);
    }
}
