/** Promise 1: the limits are clamped; there are no classes and no bytes. */
public final class NewObjectTest {
    private static final Checks CHECKS = new Checks();
    private static final String INSTANCE = "73" + Hex.desc("A", 0, 2, Hex.NULL);

    public static void main(String[] args) {
        startsEmpty();
        depthIsClamped();
        handlesAreClamped();
        lengthIsClamped();
        bytesAreClamped();
        CHECKS.end();
    }

    private static GraphReader withA(int depth, int handles, int length, int bytes) {
        GraphReader x = new GraphReader(depth, handles, length, bytes);
        x.define(0, 1, -1, 0);
        return x;
    }

    private static void startsEmpty() {
        GraphReader x = Readers.fresh();
        for (int what = 0; what <= 4; what++) {
            CHECKS.same("count(" + what + ") at first", x.count(what), 0);
        }
        for (int number = 0; number < 6; number++) {
            CHECKS.same("field at first", x.field(number, 0, 0), GraphReader.REFUSED);
        }
        CHECKS.same("object at first", x.object(0, 0), GraphReader.REFUSED);
        CHECKS.same("read at first", x.read(), GraphReader.END);
    }

    private static void depthIsClamped() {
        for (int depth : new int[] {Integer.MIN_VALUE, 0, 1}) {
            CHECKS.reads("depth 1 under " + depth, 0, withA(depth, 60, 20, 700), INSTANCE);
            CHECKS.fault("depth 2 under " + depth, GraphReader.LIMIT, withA(depth, 60, 20, 700), nested(2));
        }
        CHECKS.reads("depth 2 under 2", 0, withA(2, 60, 20, 700), Hex.refs(INSTANCE));
        for (int depth : new int[] {8, 9, Integer.MAX_VALUE}) {
            CHECKS.reads("depth 8 under " + depth, GraphReader.NULL, withA(depth, 60, 20, 700), nested(8));
            CHECKS.fault("depth 9 under " + depth, GraphReader.LIMIT, withA(depth, 60, 20, 700), nested(9));
        }
        CHECKS.fault("depth 8 under 7", GraphReader.LIMIT, withA(7, 60, 20, 700), nested(8));
    }

    /** A descriptor within another's rest takes no limits, so only the innermost, an instance, asks them. */
    private static String nested(int depth) {
        String inner = INSTANCE;
        for (int k = 1; k < depth; k++) {
            inner = "72" + Hex.utf("X") + Hex.i8(0) + "02" + "0000" + inner + Hex.REST_END + Hex.NULL;
        }
        return inner;
    }

    private static void handlesAreClamped() {
        String twoEntries = "73" + Hex.desc("A", 0, 2, Hex.desc("B", 0, 2, Hex.NULL));
        for (int handles : new int[] {Integer.MIN_VALUE, 0, 1}) {
            CHECKS.reads("1 entry under " + handles, 0, withA(8, handles, 20, 700), INSTANCE);
            CHECKS.fault("2 entries under " + handles, GraphReader.LIMIT, withA(8, handles, 20, 700), twoEntries);
        }
        CHECKS.reads("2 entries under 2", 0, withA(8, 2, 20, 700), twoEntries);
        for (int handles : new int[] {60, 61, Integer.MAX_VALUE}) {
            CHECKS.same("60 entries under " + handles, afterTexts(handles, 59), 59);
            CHECKS.same("61 entries under " + handles, afterTexts(handles, 60), GraphReader.LIMIT);
        }
        CHECKS.same("60 entries under 59", afterTexts(59, 59), GraphReader.LIMIT);
    }

    /** What an instance with one descriptor answers behind so many texts. */
    private static int afterTexts(int handles, int texts) {
        GraphReader x = withA(8, handles, 20, 700);
        Hex.open(x, Hex.text("").repeat(texts), INSTANCE);
        for (int k = 0; k < texts; k++) {
            x.read();
        }
        return x.read();
    }

    private static void lengthIsClamped() {
        for (int length : new int[] {Integer.MIN_VALUE, -1, 0}) {
            CHECKS.reads("length 0 under " + length, 0, withA(8, 60, length, 700), Hex.ints());
            CHECKS.fault("length 1 under " + length, GraphReader.LIMIT, withA(8, 60, length, 700), Hex.ints(5));
        }
        for (int length : new int[] {20, 21, Integer.MAX_VALUE}) {
            CHECKS.reads("length 20 under " + length, 0, withA(8, 60, length, 700), Hex.ints(new int[20]));
            CHECKS.fault("length 21 under " + length, GraphReader.LIMIT, withA(8, 60, length, 700),
                    Hex.ints(new int[21]));
        }
    }

    private static void bytesAreClamped() {
        for (int bytes : new int[] {Integer.MIN_VALUE, 3, 4}) {
            CHECKS.fault("bytes under " + bytes, GraphReader.LIMIT, withA(8, 60, 20, bytes), INSTANCE);
            CHECKS.reads("a text under " + bytes, 0, withA(8, 60, 20, bytes), Hex.text("abc"));
        }
        for (int bytes : new int[] {700, 701, Integer.MAX_VALUE}) {
            GraphReader x = withA(8, 60, 20, bytes);
            Hex.open(x, Hex.text("a".repeat(675)), INSTANCE);
            x.read();
            CHECKS.same("an instance up to byte 700 under " + bytes, x.read(), 1);
            CHECKS.same("PLACE under " + bytes, x.count(0), 700);
        }
    }
}
