/** Promise 7, constants. */
public final class ReadConstantTest {
    private static final Checks CHECKS = new Checks();
    private static final int END = GraphReader.END;
    private static final int CORRUPT = GraphReader.CORRUPT;
    private static final int BAD_CLASS = GraphReader.BAD_CLASS;
    private static final int BAD_OBJECT = GraphReader.BAD_OBJECT;
    private static final String CONSTANT = "7E" + Hex.constantDesc("A");

    public static void main(String[] args) {
        nullDescriptor();
        notOfAConstant();
        classNotThere();
        anEntryThatIsNull();
        noText();
        otherTexts();
        notOfThatClass();
        nameIsMissing();
        entryAndValue();
        oneObjectForOneName();
        anotherClassOrName();
        oneObjectBehindAReset();
        CHECKS.end();
    }

    /** CONSTANT classes A with a and z, and B with a and b. */
    private static GraphReader withConstants() {
        GraphReader x = Readers.with(Readers.CONSTANT, Readers.CONSTANT, Readers.SERIAL);
        x.constant(0, 0, true);
        x.constant(0, 25, true);
        x.constant(1, 0, true);
        x.constant(1, 1, true);
        return x;
    }

    private static void nullDescriptor() {
        CHECKS.by("7E: a DESCRIPTOR, not NULL (CORRUPT)");
        CHECKS.fault("NULL", CORRUPT, withConstants(), "7E" + Hex.NULL + Hex.text("a"));
    }

    private static void notOfAConstant() {
        CHECKS.by("it must be of a CONSTANT (BAD_CLASS)");
        CHECKS.fault("with a class", BAD_CLASS, withConstants(), "7E" + Hex.desc("C") + Hex.text("a"));
        CHECKS.fault("without one, before UNKNOWN", BAD_CLASS, withConstants(), "7E" + Hex.desc("F") + Hex.text("a"));
        CHECKS.fault("before its name", BAD_CLASS, withConstants(), "7E" + Hex.desc("F"));
    }

    private static void classNotThere() {
        CHECKS.by("its local class there (UNKNOWN)");
        for (String name : new String[] {"F", "G", "a", "AA", ""}) {
            CHECKS.fault("of " + name, GraphReader.UNKNOWN, withConstants(), "7E" + Hex.constantDesc(name) + Hex.text("a"));
        }
        CHECKS.fault("before its name", GraphReader.UNKNOWN, withConstants(), "7E" + Hex.constantDesc("F"));
    }

    private static void anEntryThatIsNull() {
        CHECKS.by("An entry NULL");
        CHECKS.fault("its own entry is no TEXT", BAD_OBJECT, withConstants(), CONSTANT + Hex.ref(1));
        CHECKS.fault("its descriptor's entry", CORRUPT, withConstants(), CONSTANT + Hex.ref(0));
        CHECKS.fault("no entry yet", CORRUPT, withConstants(), CONSTANT + Hex.ref(2));
    }

    private static void noText() {
        CHECKS.by("then a READ one deeper must give a TEXT (else BAD_OBJECT)");
        String[] contents = {Hex.NULL, Hex.ints(97), Hex.ints(), Hex.refs(Hex.text("a")), Hex.desc("X"), "73" + Hex.desc("C"),
            "7E" + Hex.constantDesc("B") + Hex.text("a")};
        for (int k = 0; k < contents.length; k++) {
            CHECKS.fault("content " + k, BAD_OBJECT, withConstants(), CONSTANT + contents[k]);
        }
        CHECKS.fault("a block", CORRUPT, withConstants(), CONSTANT + Hex.block(""));
        CHECKS.fault("an abort", GraphReader.ABORTED, withConstants(), CONSTANT + "7B");
    }

    private static void otherTexts() {
        CHECKS.by("of one sign a .. z that the class has as a constant (else BAD_OBJECT)");
        for (String text : new String[] {"", "aa", "az", "za", "zz"}) {
            CHECKS.fault("the text " + text, BAD_OBJECT, withConstants(), CONSTANT + Hex.text(text));
        }
        for (int sign = 1; sign < 128; sign++) {
            GraphReader x = withConstants();
            Hex.open(x, CONSTANT + Hex.text(String.valueOf((char) sign)));
            CHECKS.same("the sign " + sign, x.read(), sign == 'a' || sign == 'z' ? 1 : BAD_OBJECT);
        }
    }

    private static void notOfThatClass() {
        CHECKS.by("of one sign a .. z that the class has as a constant (else BAD_OBJECT)");
        CHECKS.fault("b is of B, not of A", BAD_OBJECT, withConstants(), CONSTANT + Hex.text("b"));
        CHECKS.fault("z is of A, not of B", BAD_OBJECT, withConstants(), "7E" + Hex.constantDesc("B") + Hex.text("z"));
        GraphReader none = Readers.with(Readers.CONSTANT);
        CHECKS.fault("a class without constants", BAD_OBJECT, none, CONSTANT + Hex.text("a"));
    }

    private static void nameIsMissing() {
        CHECKS.by("Whatever needs a byte where there is none is the fault END.");
        CHECKS.fault("no name", END, withConstants(), CONSTANT);
        CHECKS.fault("a part of a name", END, withConstants(), CONSTANT + "740001");
    }

    private static void entryAndValue() {
        CHECKS.by("The entry and the value are the CONSTANT");
        GraphReader x = withConstants();
        Hex.open(x, CONSTANT + Hex.text("z"), Hex.ref(1), "7E" + Hex.desc("B", 0, 0x10, Hex.NULL) + Hex.ref(2));
        CHECKS.same("a constant, behind its text", x.read(), 1);
        CHECKS.same("HANDLES", x.count(1), 3);
        int[] wants = {4, 0, 25, 0};
        for (int what = 0; what < 4; what++) {
            CHECKS.same("object(1, " + what + ")", x.object(1, what), wants[what]);
        }
        CHECKS.same("by its entry", x.read(), 1);
        CHECKS.same("a name by a handle that B does not have", x.read(), BAD_OBJECT);
    }

    private static void oneObjectForOneName() {
        CHECKS.by("the object in the HEAP with this class and name, if there is one, else a new one.");
        GraphReader x = withConstants();
        Hex.open(x, CONSTANT + Hex.text("a"), "7E" + Hex.ref(0) + Hex.ref(2), Hex.ref(3),
                "7E" + Hex.ref(0) + Hex.text("a"));
        CHECKS.readsInTurn(x, 1, 1, 1, 1);
        CHECKS.counts("in the end", x, x.count(4), 6, 3, 0);
    }

    private static void anotherClassOrName() {
        CHECKS.by("the object in the HEAP with this class and name, if there is one, else a new one.");
        GraphReader x = withConstants();
        Hex.open(x, CONSTANT + Hex.text("a"), "7E" + Hex.ref(0) + Hex.text("z"),
                "7E" + Hex.constantDesc("B") + Hex.ref(2), "7E" + Hex.ref(5) + Hex.ref(2), "7E" + Hex.ref(0) + Hex.ref(2));
        CHECKS.readsInTurn(x, 1, 3, 4, 4, 1);
        CHECKS.same("class of the third", x.object(4, 1), 1);
        CHECKS.same("name of the third", x.object(4, 2), 0);
    }

    private static void oneObjectBehindAReset() {
        CHECKS.by("the object in the HEAP with this class and name, if there is one, else a new one.");
        GraphReader x = withConstants();
        Hex.open(x, CONSTANT + Hex.text("a"), "79" + CONSTANT + Hex.text("a"), CONSTANT + Hex.text("z"));
        CHECKS.readsInTurn(x, 1, 1, 4);
        CHECKS.same("HEAP", x.count(2), 5);
    }
}
