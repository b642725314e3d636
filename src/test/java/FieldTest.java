/** Promise 3: field. */
public final class FieldTest {
    private static final Checks CHECKS = new Checks();
    private static final int REFUSED = GraphReader.REFUSED;

    public static void main(String[] args) {
        numberOutOfRange();
        classNotThere();
        classOfEveryKind();
        nameOutOfRange();
        typeOutOfRange();
        everyNameAndType();
        aFifth();
        theSameName();
        theSameNameInAnotherClass();
        heapNotEmpty();
        heapEmptyAgain();
        refusedAddsNothing();
        CHECKS.end();
    }

    private static void numberOutOfRange() {
        CHECKS.by("A class that is there and not CONSTANT");
        GraphReader x = Readers.withEveryKind();
        for (int number : new int[] {Integer.MIN_VALUE, -1, 6, Integer.MAX_VALUE}) {
            CHECKS.same("class " + number, x.field(number, 0, 0), REFUSED);
        }
    }

    private static void classNotThere() {
        CHECKS.by("A class that is there and not CONSTANT");
        GraphReader x = Readers.withEveryKind();
        CHECKS.same("class 5", x.field(5, 0, 0), REFUSED);
        x.define(5, Readers.SERIAL, -1, 0);
        CHECKS.same("class 5 when it is there", x.field(5, 0, 0), 1);
    }

    private static void classOfEveryKind() {
        CHECKS.by("A class that is there and not CONSTANT");
        GraphReader x = Readers.withEveryKind();
        for (int kind = Readers.PLAIN; kind <= Readers.RECORD; kind++) {
            CHECKS.same("kind " + kind, x.field(kind, 0, 0), kind == Readers.CONSTANT ? REFUSED : 1);
        }
    }

    private static void nameOutOfRange() {
        CHECKS.by("name 0 .. 25");
        GraphReader x = Readers.with(Readers.SERIAL);
        for (int name : new int[] {Integer.MIN_VALUE, -1, 26, Integer.MAX_VALUE}) {
            CHECKS.same("name " + name, x.field(0, name, 0), REFUSED);
        }
    }

    private static void typeOutOfRange() {
        CHECKS.by("type 0 .. 7");
        GraphReader x = Readers.with(Readers.SERIAL);
        for (int type : new int[] {Integer.MIN_VALUE, -1, 8, Integer.MAX_VALUE}) {
            CHECKS.same("type " + type, x.field(0, 0, type), REFUSED);
        }
    }

    private static void everyNameAndType() {
        CHECKS.by("Answers how many FIELDS.");
        for (int name = 0; name < 26; name++) {
            for (int type = 0; type < 8; type++) {
                CHECKS.same(name + " of type " + type, Readers.with(Readers.SERIAL).field(0, name, type), 1);
            }
        }
    }

    private static void aFifth() {
        CHECKS.by("It has four FIELDS or one of that name, or the HEAP is not empty: REFUSED.");
        GraphReader x = Readers.with(Readers.SERIAL);
        for (int k = 1; k <= 4; k++) {
            CHECKS.same("field " + k, x.field(0, k, k), k);
        }
        CHECKS.same("a fifth", x.field(0, 5, 5), REFUSED);
        CHECKS.same("a fifth of a name that is there", x.field(0, 4, 4), REFUSED);
        x.define(1, Readers.SERIAL, 0, 0);
        CHECKS.same("a first below a class that is full", x.field(1, 5, 5), 1);
    }

    private static void theSameName() {
        CHECKS.by("It has four FIELDS or one of that name, or the HEAP is not empty: REFUSED.");
        GraphReader x = Readers.with(Readers.SERIAL);
        for (int name : new int[] {0, 25, 12}) {
            x.field(0, name, 0);
            for (int type = 0; type < 8; type++) {
                CHECKS.same(name + " again, of type " + type, x.field(0, name, type), REFUSED);
            }
        }
        CHECKS.same("another name", x.field(0, 1, 0), 4);
    }

    private static void theSameNameInAnotherClass() {
        CHECKS.by("up to four FIELDS in order: a name a .. z (none twice)");
        GraphReader x = Readers.withFields(Readers.SERIAL, 0);
        x.define(1, Readers.SERIAL, 0, 0);
        x.define(2, Readers.SERIAL, -1, 0);
        CHECKS.same("below", x.field(1, 0, 0), 1);
        CHECKS.same("beside", x.field(2, 0, 0), 1);
    }

    private static void heapNotEmpty() {
        CHECKS.by("It has four FIELDS or one of that name, or the HEAP is not empty: REFUSED.");
        GraphReader x = Readers.with(Readers.SERIAL);
        Hex.open(x, Hex.desc("X"), Hex.text("a"), "00");
        x.read();
        CHECKS.same("with an entry alone", x.field(0, 0, 0), 1);
        x.read();
        CHECKS.same("with an object", x.field(0, 1, 0), REFUSED);
        x.read();
        CHECKS.same("with an object, behind a fault", x.field(0, 1, 0), REFUSED);
    }

    private static void heapEmptyAgain() {
        CHECKS.by("It has four FIELDS or one of that name, or the HEAP is not empty: REFUSED.");
        GraphReader x = Readers.with(Readers.SERIAL);
        Hex.open(x, Hex.text("a"));
        x.read();
        x.begin();
        CHECKS.same("begun again", x.field(0, 0, 0), 1);
        GraphReader y = Readers.with(Readers.SERIAL);
        Hex.open(y, Hex.refs(Hex.text("a"), "00"));
        CHECKS.same("a fault behind an object", y.read(), GraphReader.CORRUPT);
        CHECKS.same("the object is gone", y.field(0, 0, 0), 1);
    }

    private static void refusedAddsNothing() {
        CHECKS.by("numbers out of range and all that is said to be refused answer REFUSED (NONE if a long) and change nothing.");
        GraphReader x = Readers.withFields(Readers.SERIAL, 2);
        x.field(0, 0, 7);
        x.field(0, 26, 2);
        x.field(0, 1, 8);
        CHECKS.reads("an instance", 0, x, "73" + Hex.desc("A"));
        x.field(0, 2, 2);
        CHECKS.values("SLOTS", x, 0, 0);
        x.begin();
        CHECKS.same("the second", x.field(0, 1, 2), 2);
    }
}
