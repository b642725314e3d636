/** Promise 4: constant. */
public final class ConstantTest {
    private static final Checks CHECKS = new Checks();
    private static final int REFUSED = GraphReader.REFUSED;
    private static final int DONE = GraphReader.DONE;
    private static final String[] NAMES = {"A", "B", "C", "D", "E"};

    public static void main(String[] args) {
        numberOutOfRange();
        classNotThere();
        nameOutOfRange();
        everyName();
        fromNowOn();
        hadAlready();
        onIsNotLookedAt();
        nameIsNotLookedAt();
        barred();
        barredNoMore();
        barredOneIsTheDescriptorsOwn();
        CHECKS.end();
    }

    private static void numberOutOfRange() {
        CHECKS.by("Every call tests its numbers first, then what its comment says");
        GraphReader x = Readers.withEveryKind();
        for (int number : new int[] {Integer.MIN_VALUE, -1, 6, Integer.MAX_VALUE}) {
            CHECKS.same("class " + number, x.constant(number, 0, true), REFUSED);
        }
    }

    private static void classNotThere() {
        CHECKS.by("A CONSTANT class has a constant named 0 .. 25 from now on");
        GraphReader x = Readers.withEveryKind();
        CHECKS.same("class 5", x.constant(5, 0, true), REFUSED);
        x.define(5, Readers.CONSTANT, -1, 0);
        CHECKS.same("it has none of its own", constantOf(x, "F", "a"), GraphReader.BAD_OBJECT);
    }

    private static int constantOf(GraphReader x, String owner, String name) {
        Hex.open(x, "7E" + Hex.constantDesc(owner) + Hex.text(name));
        return x.read();
    }

    private static void nameOutOfRange() {
        CHECKS.by("A CONSTANT class has a constant named 0 .. 25 from now on");
        // Names 32 more or less than one in range would be the same bit of an int.
        for (int name : new int[] {Integer.MIN_VALUE, -32, -1, 26, 32, Integer.MAX_VALUE}) {
            GraphReader x = Readers.withEveryKind();
            CHECKS.same("name " + name, x.constant(3, name, true), REFUSED);
            CHECKS.same("no constant a behind " + name, constantOf(x, "D", "a"), GraphReader.BAD_OBJECT);
        }
    }

    private static void everyName() {
        CHECKS.by("A CONSTANT class has a constant named 0 .. 25 from now on");
        for (int name = 0; name < 26; name++) {
            for (int other = 0; other < 26; other++) {
                GraphReader x = Readers.withEveryKind();
                CHECKS.same("constant", x.constant(3, name, true), DONE);
                int want = name == other ? 1 : GraphReader.BAD_OBJECT;
                CHECKS.same(other + " where there is " + name, constantOf(x, "D", String.valueOf((char) ('a' + other))), want);
                CHECKS.same("its name", x.object(1, 2), name == other ? name : REFUSED);
            }
        }
    }

    private static void fromNowOn() {
        CHECKS.by("A CONSTANT class has a constant named 0 .. 25 from now on");
        GraphReader x = Readers.withEveryKind();
        Hex.open(x, Hex.constantDesc("D"), "7E" + Hex.ref(0) + Hex.text("a"));
        x.read();
        x.constant(3, 0, true);
        CHECKS.same("a constant given behind the descriptor", x.read(), 1);
        GraphReader y = Readers.withEveryKind();
        CHECKS.same("before it is given", constantOf(y, "D", "a"), GraphReader.BAD_OBJECT);
        y.constant(3, 0, true);
        y.begin();
        CHECKS.same("when it is given", y.read(), 1);
        y.constant(3, 25, true);
        y.begin();
        CHECKS.same("when another is given too", y.read(), 1);
    }

    private static void hadAlready() {
        CHECKS.by("(it may have it already; on is not looked at)");
        GraphReader x = Readers.withEveryKind();
        CHECKS.same("constant", x.constant(3, 7, true), DONE);
        CHECKS.same("constant again", x.constant(3, 7, true), DONE);
        CHECKS.same("it has it still", constantOf(x, "D", "h"), 1);
    }

    private static void onIsNotLookedAt() {
        CHECKS.by("(it may have it already; on is not looked at)");
        GraphReader x = Readers.withEveryKind();
        CHECKS.same("given by false", x.constant(3, 7, false), DONE);
        CHECKS.same("it has it", constantOf(x, "D", "h"), 1);
        GraphReader y = Readers.withEveryKind();
        y.constant(3, 7, true);
        CHECKS.same("false behind true", y.constant(3, 7, false), DONE);
        CHECKS.same("it is not taken away", constantOf(y, "D", "h"), 1);
    }

    private static void nameIsNotLookedAt() {
        CHECKS.by("or, for another class, name not looked at, it is barred or no more. DONE.");
        for (int kind : new int[] {Readers.PLAIN, Readers.SERIAL, Readers.CUSTOM, Readers.RECORD}) {
            for (int name : new int[] {Integer.MIN_VALUE, -1, 0, 25, 26, Integer.MAX_VALUE}) {
                GraphReader x = Readers.withEveryKind();
                CHECKS.same("name " + name, x.constant(kind, name, true), DONE);
                CHECKS.fault("barred by name " + name, GraphReader.LIMIT, x, "73" + Hex.desc(NAMES[kind]));
            }
        }
    }

    private static void barred() {
        CHECKS.by("or, for another class, name not looked at, it is barred or no more. DONE.");
        for (int kind : new int[] {Readers.SERIAL, Readers.CUSTOM, Readers.RECORD}) {
            GraphReader x = Readers.withEveryKind();
            x.constant(kind, 0, true);
            x.constant(kind, 0, true);
            CHECKS.fault("kind " + kind, GraphReader.LIMIT, x, "73" + Hex.desc(NAMES[kind]));
            GraphReader y = Readers.withEveryKind();
            y.constant(kind, 0, false);
            CHECKS.reads("kind " + kind + " that never was", 0, y, "73" + Hex.desc(NAMES[kind]));
        }
    }

    private static void barredNoMore() {
        CHECKS.by("or, for another class, name not looked at, it is barred or no more. DONE.");
        for (int kind : new int[] {Readers.SERIAL, Readers.CUSTOM, Readers.RECORD}) {
            GraphReader x = Readers.withEveryKind();
            x.constant(kind, 0, true);
            x.constant(kind, 1, false);
            CHECKS.reads("kind " + kind, 0, x, "73" + Hex.desc(NAMES[kind]));
        }
    }

    private static void barredOneIsTheDescriptorsOwn() {
        CHECKS.by("or the DESCRIPTOR's local class is one that was barred.");
        GraphReader above = Readers.withEveryKind();
        above.define(5, Readers.SERIAL, 1, 0);
        above.constant(1, 0, true);
        CHECKS.reads("a class above", 0, above, "73" + Hex.desc("F", 0, 2, Hex.desc("B")));
        GraphReader later = Readers.withEveryKind();
        Hex.open(later, Hex.desc("B"), "73" + Hex.ref(0));
        later.read();
        later.constant(1, 0, true);
        CHECKS.same("barred behind its descriptor", later.read(), GraphReader.LIMIT);
        GraphReader alone = Readers.withEveryKind();
        alone.constant(1, 0, true);
        CHECKS.reads("its descriptor alone", GraphReader.NULL, alone, Hex.desc("B"));
    }
}
