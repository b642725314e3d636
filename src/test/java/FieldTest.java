/** Promise 3: field. */
public final class FieldTest {
    private static final Checks CHECKS = new Checks();
    private static final int REFUSED = GraphReader.REFUSED;

    public static void main(String[] args) {
        numbersAreTested();
        fourAtMost();
        noneTwice();
        notWhileObjectsAreThere();
        slotsInOrder();
        CHECKS.end();
    }

    private static void numbersAreTested() {
        GraphReader x = Readers.withEveryKind();
        CHECKS.same("class -1", x.field(-1, 0, 0), REFUSED);
        CHECKS.same("class 6", x.field(6, 0, 0), REFUSED);
        CHECKS.same("class not there", x.field(5, 0, 0), REFUSED);
        CHECKS.same("a CONSTANT", x.field(3, 0, 0), REFUSED);
        CHECKS.same("name -1", x.field(0, -1, 0), REFUSED);
        CHECKS.same("name 26", x.field(0, 26, 0), REFUSED);
        CHECKS.same("type -1", x.field(0, 0, -1), REFUSED);
        CHECKS.same("type 8", x.field(0, 0, 8), REFUSED);
        CHECKS.same("the first", x.field(0, 0, 0), 1);
        CHECKS.same("the last name", x.field(0, 25, 7), 2);
        for (int kind : new int[] {1, 2, 4}) {
            CHECKS.same("kind " + kind, x.field(kind, 0, 0), 1);
        }
    }

    private static void fourAtMost() {
        GraphReader x = Readers.withEveryKind();
        for (int k = 1; k <= 4; k++) {
            CHECKS.same("field " + k, x.field(1, k, k), k);
        }
        CHECKS.same("a fifth", x.field(1, 5, 5), REFUSED);
    }

    private static void noneTwice() {
        GraphReader x = Readers.withEveryKind();
        CHECKS.same("a", x.field(1, 0, 0), 1);
        CHECKS.same("a again", x.field(1, 0, 0), REFUSED);
        CHECKS.same("a of another type", x.field(1, 0, 7), REFUSED);
        CHECKS.same("b", x.field(1, 1, 0), 2);
        CHECKS.same("a of another class", x.field(2, 0, 0), 1);
        x.define(5, 1, 1, 0);
        CHECKS.same("a below one that has a", x.field(5, 0, 0), 1);
    }

    private static void notWhileObjectsAreThere() {
        GraphReader x = Readers.withEveryKind();
        Hex.open(x, Hex.desc("X", 0, 2, Hex.NULL), Hex.text("a"), "00");
        x.read();
        CHECKS.same("with a handle alone", x.field(1, 0, 0), 1);
        x.read();
        CHECKS.same("with an object", x.field(1, 1, 0), REFUSED);
        CHECKS.same("a fault", x.read(), GraphReader.CORRUPT);
        CHECKS.same("with an object, behind a fault", x.field(1, 1, 0), REFUSED);
        x.begin();
        CHECKS.same("begun again", x.field(1, 1, 0), 2);
        GraphReader y = Readers.withEveryKind();
        Hex.open(y, Hex.refs(Hex.text("a"), "00"));
        CHECKS.same("a fault behind an object", y.read(), GraphReader.CORRUPT);
        CHECKS.same("the object is gone", y.field(1, 0, 0), 1);
    }

    private static void slotsInOrder() {
        GraphReader x = Readers.withEveryKind();
        x.define(5, 1, 1, 0);
        x.field(5, 2, 2);
        x.field(1, 9, 2);
        x.field(5, 1, 2);
        x.field(1, 8, 2);
        String above = Hex.desc("B", 0, 2, Hex.NULL, Hex.field('I', "i"), Hex.field('I', "j"));
        String below = Hex.desc("F", 0, 2, above, Hex.field('I', "b"), Hex.field('I', "c"));
        CHECKS.reads("an instance", 0, x, "73" + below, Hex.u4(10), Hex.u4(11), Hex.u4(12), Hex.u4(13));
        CHECKS.same("slots", x.object(0, 2), 4);
        CHECKS.same("j of the class above", x.value(0, 0), 11);
        CHECKS.same("i of the class above", x.value(0, 1), 10);
        CHECKS.same("c", x.value(0, 2), 13);
        CHECKS.same("b", x.value(0, 3), 12);
    }
}
