/** Readers that tests begin with, their limits as wide as can be. */
final class Readers {
    static final int PLAIN = 0;
    static final int SERIAL = 1;
    static final int CUSTOM = 2;
    static final int CONSTANT = 3;
    static final int RECORD = 4;

    private Readers() {
    }

    static GraphReader fresh() {
        return new GraphReader(8, 60, 20, 700);
    }

    /** A reader that has begun, with these bytes behind the header. */
    static GraphReader opened(String... hex) {
        GraphReader x = fresh();
        Hex.open(x, hex);
        return x;
    }

    /** Classes A, B, .. of these kinds, with the id 0 and no superclass. */
    static GraphReader with(int... kinds) {
        GraphReader x = fresh();
        for (int number = 0; number < kinds.length; number++) {
            x.define(number, kinds[number], -1, 0);
        }
        return x;
    }

    static GraphReader withEveryKind() {
        return with(PLAIN, SERIAL, CUSTOM, CONSTANT, RECORD);
    }

    /** Class A of this kind, with fields a, b, .. of these types. */
    static GraphReader withFields(int kind, int... types) {
        GraphReader x = with(kind);
        addFields(x, 0, types);
        return x;
    }

    static void addFields(GraphReader x, int number, int... types) {
        for (int name = 0; name < types.length; name++) {
            x.field(number, name, types[name]);
        }
    }

    /** So many empty texts are read, one entry each, and these bytes come next. */
    static GraphReader behindTexts(int texts, String... tail) {
        return behindTexts(fresh(), texts, tail);
    }

    static GraphReader behindTexts(GraphReader x, int texts, String... tail) {
        Hex.open(x, Hex.text("").repeat(texts) + String.join("", tail));
        for (int k = 0; k < texts; k++) {
            x.read();
        }
        return x;
    }

    /** One number made of all that a fault must leave as it was: PLACE, HANDLES, and the HEAP with its objects. */
    static long seen(GraphReader x) {
        long sum = 0;
        for (int what = 0; what < 3; what++) {
            sum = 1000003 * sum + x.count(what);
        }
        for (int object = 0; object < x.count(2); object++) {
            for (int what = 0; what < 4; what++) {
                sum = 31 * sum + x.object(object, what);
            }
            int size = x.object(object, 0) == 4 ? 0 : x.object(object, 2);
            for (int k = 0; k < size; k++) {
                sum = 31 * sum + x.value(object, k);
            }
        }
        return sum;
    }
}
