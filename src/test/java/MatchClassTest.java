/** Promise 7, descriptors: which local class is theirs, and whether it fits. */
public final class MatchClassTest {
    private static final Checks CHECKS = new Checks();
    private static final int NULL = GraphReader.NULL;
    private static final int CORRUPT = GraphReader.CORRUPT;
    private static final int BAD_CLASS = GraphReader.BAD_CLASS;
    private static final int UNKNOWN = GraphReader.UNKNOWN;
    private static final String SIGNS = "BCIJSZ[L";

    public static void main(String[] args) {
        everySign();
        namesOfMoreSigns();
        matchedWhenAllIsRead();
        constantAndOther();
        otherAndConstant();
        noLocalClassNoChecks();
        idsThatDiffer();
        idsThatDoNotMatter();
        fieldsOfAnotherType();
        fieldsWithoutANamesake();
        namesakeInAnotherClass();
        namesakeOfEveryKind();
        checkedBehindTheOneAbove();
        checkedBeforeLimits();
        CHECKS.end();
    }

    private static GraphReader withAll() {
        GraphReader x = Readers.fresh();
        for (int number = 0; number < 6; number++) {
            x.define(number, Readers.SERIAL, -1, 0);
        }
        return x;
    }

    private static void everySign() {
        CHECKS.by("LOCAL CLASSES 0 .. 5, named A .. F, are there or not.");
        for (int sign = 1; sign < 128; sign++) {
            GraphReader x = withAll();
            Hex.open(x, "73" + Hex.desc(String.valueOf((char) sign)));
            boolean ours = sign >= 'A' && sign <= 'F';
            CHECKS.same("the sign " + sign, x.read(), ours ? 0 : UNKNOWN);
            CHECKS.same("its class", x.object(0, 1), ours ? sign - 'A' : GraphReader.REFUSED);
        }
        for (int number = 0; number < 6; number++) {
            GraphReader x = Readers.fresh();
            x.define(number, Readers.SERIAL, -1, 0);
            Hex.open(x, "73" + Hex.desc(String.valueOf((char) ('A' + (number + 1) % 6))));
            CHECKS.same("one that is not there", x.read(), UNKNOWN);
        }
    }

    private static void namesOfMoreSigns() {
        CHECKS.by("The local class is the one with that name, if the name is one sign and it is there");
        for (String name : new String[] {"", "AA", "AB", "A ", " A", "FF", "ABCDEF"}) {
            CHECKS.fault("the name '" + name + "'", UNKNOWN, withAll(), "73" + Hex.desc(name));
        }
    }

    private static void matchedWhenAllIsRead() {
        CHECKS.by("The local class is the one with that name, if the name is one sign and it is there");
        GraphReader x = Readers.opened(Hex.desc("A"), "73" + Hex.ref(0));
        CHECKS.same("a descriptor without a class", x.read(), NULL);
        x.define(0, Readers.SERIAL, -1, 0);
        CHECKS.same("a class that came behind its descriptor", x.read(), UNKNOWN);
        x.begin();
        CHECKS.readsInTurn(x, NULL, 0);
    }

    private static void constantAndOther() {
        CHECKS.by("one of the two is CONSTANT and the other not: BAD_CLASS (a DESCRIPTOR is if 10 is set)");
        for (int kind = Readers.PLAIN; kind <= Readers.RECORD; kind++) {
            for (int flags : new int[] {0x10, 0x11, 0x12, 0x13}) {
                GraphReader x = Readers.with(kind);
                Hex.open(x, Hex.desc("A", 0, flags, Hex.NULL));
                CHECKS.same("flags " + flags + ", kind " + kind, x.read(), kind == Readers.CONSTANT ? NULL : BAD_CLASS);
            }
        }
    }

    private static void otherAndConstant() {
        CHECKS.by("one of the two is CONSTANT and the other not: BAD_CLASS (a DESCRIPTOR is if 10 is set)");
        for (int kind = Readers.PLAIN; kind <= Readers.RECORD; kind++) {
            for (int flags : new int[] {0, 1, 2, 3, 8, 0x20}) {
                GraphReader x = Readers.with(kind);
                Hex.open(x, Hex.desc("A", 0, flags, Hex.NULL));
                CHECKS.same("flags " + flags + ", kind " + kind, x.read(), kind == Readers.CONSTANT ? BAD_CLASS : NULL);
            }
        }
    }

    private static void noLocalClassNoChecks() {
        CHECKS.by("The local class is the one with that name, if the name is one sign and it is there");
        CHECKS.reads("a constant", NULL, Readers.fresh(), Hex.constantDesc("A"));
        CHECKS.reads("an id", NULL, Readers.fresh(), Hex.desc("A", 5, 2, Hex.NULL, Hex.field('I', "a")));
        CHECKS.reads("a longer name", NULL, withAll(), Hex.desc("AB", 5, 2, Hex.NULL));
    }

    private static void idsThatDiffer() {
        CHECKS.by("02 is set, the class is neither PLAIN nor CONSTANT, and the IDs differ: BAD_CLASS");
        for (int kind = Readers.PLAIN; kind <= Readers.RECORD; kind++) {
            boolean constant = kind == Readers.CONSTANT;
            GraphReader x = Readers.fresh();
            x.define(0, kind, -1, 5);
            Hex.open(x, constant ? Hex.constantDesc("A") : Hex.desc("A", 6, 2, Hex.NULL));
            CHECKS.same("kind " + kind, x.read(), constant || kind == Readers.PLAIN ? NULL : BAD_CLASS);
            GraphReader y = Readers.fresh();
            y.define(0, kind, -1, 0);
            CHECKS.reads("the same id, kind " + kind, NULL, y, Hex.desc("A", 0, constant ? 0x12 : 2, Hex.NULL));
        }
    }

    private static void idsThatDoNotMatter() {
        CHECKS.by("02 is set, the class is neither PLAIN nor CONSTANT, and the IDs differ: BAD_CLASS");
        for (int kind : new int[] {Readers.PLAIN, Readers.SERIAL, Readers.CUSTOM, Readers.RECORD}) {
            for (int flags : new int[] {0, 1, 8, 0x20, 0xE9}) {
                GraphReader x = Readers.fresh();
                x.define(0, kind, -1, 5);
                CHECKS.reads("flags " + flags + ", kind " + kind, NULL, x, Hex.desc("A", 6, flags, Hex.NULL));
            }
        }
        GraphReader y = Readers.fresh();
        y.define(0, Readers.SERIAL, -1, 5);
        CHECKS.reads("an instance without 02", 0, y, "73" + Hex.desc("A", 6, 0, Hex.NULL));
    }

    private static void fieldsOfAnotherType() {
        CHECKS.by("a field that is PRIMITIVE, or whose namesake is, has another type than its namesake among the class's FIELDS: BAD_CLASS.");
        for (int ours = 0; ours < 8; ours++) {
            for (int theirs = 0; theirs < 8; theirs++) {
                boolean bad = ours != theirs && (ours < 6 || theirs < 6);
                GraphReader x = Readers.with(Readers.SERIAL);
                x.field(0, 3, 2);
                x.field(0, 25, ours);
                String field = Hex.field(SIGNS.charAt(theirs), "z", theirs < 6 ? "" : Hex.text("s"));
                Hex.open(x, Hex.desc("A", 0, 2, Hex.NULL, Hex.field('I', "y"), field));
                CHECKS.same("types " + ours + " and " + theirs, x.read(), bad ? BAD_CLASS : NULL);
            }
        }
    }

    private static void fieldsWithoutANamesake() {
        CHECKS.by("a field that is PRIMITIVE, or whose namesake is, has another type than its namesake among the class's FIELDS: BAD_CLASS.");
        for (String name : new String[] {"", "zz", "aa", "A", "Z", "b", "y", "{", "`"}) {
            GraphReader x = Readers.with(Readers.SERIAL);
            x.field(0, 25, 3);
            x.field(0, 0, 3);
            CHECKS.reads("no namesake of '" + name + "'", NULL, x, Hex.desc("A", 0, 2, Hex.NULL, Hex.field('I', name)));
        }
        CHECKS.reads("a class without FIELDS", NULL, Readers.with(Readers.SERIAL),
                Hex.desc("A", 0, 2, Hex.NULL, Hex.field('I', "a")));
    }

    private static void namesakeInAnotherClass() {
        CHECKS.by("a field that is PRIMITIVE, or whose namesake is, has another type than its namesake among the class's FIELDS: BAD_CLASS.");
        GraphReader x = Readers.withFields(Readers.SERIAL, 3);
        x.define(1, Readers.SERIAL, 0, 0);
        CHECKS.reads("in the class above", NULL, x, Hex.desc("B", 0, 2, Hex.NULL, Hex.field('I', "a")));
    }

    private static void namesakeOfEveryKind() {
        CHECKS.by("a field that is PRIMITIVE, or whose namesake is, has another type than its namesake among the class's FIELDS: BAD_CLASS.");
        for (int kind : new int[] {Readers.PLAIN, Readers.SERIAL, Readers.CUSTOM, Readers.RECORD}) {
            for (int flags = 0; flags < 4; flags++) {
                CHECKS.fault("kind " + kind + ", flags " + flags, BAD_CLASS, Readers.withFields(kind, 3),
                        Hex.desc("A", 0, flags, Hex.NULL, Hex.field('I', "a")));
            }
        }
    }

    private static void checkedBehindTheOneAbove() {
        CHECKS.by("When all is read: 04 set: BAD_CLASS.");
        GraphReader x = Readers.fresh();
        x.define(0, Readers.SERIAL, -1, 5);
        CHECKS.fault("a fault in the one above", CORRUPT, x, Hex.desc("A", 6, 2, "00"));
        GraphReader y = Readers.fresh();
        y.define(0, Readers.SERIAL, -1, 5);
        CHECKS.fault("the one above does not fit", BAD_CLASS, y,
                "73" + Hex.desc("B", 0, 2, Hex.desc("A", 6, 2, Hex.NULL)));
    }

    private static void checkedBeforeLimits() {
        CHECKS.by("73: a DESCRIPTOR is read; NULL: CORRUPT. LIMITS are asked.");
        GraphReader x = Readers.fresh();
        x.define(0, Readers.SERIAL, -1, 5);
        x.constant(0, 0, true);
        CHECKS.fault("a barred class that does not fit", BAD_CLASS, x, "73" + Hex.desc("A", 6, 2, Hex.NULL));
    }
}
