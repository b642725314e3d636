/** Promise 1: a new object. */
public final class NewObjectTest {
    private static final Checks CHECKS = new Checks();
    private static final int LIMIT = GraphReader.LIMIT;
    private static final String INSTANCE = "73" + Hex.desc("A");

    public static void main(String[] args) {
        noClasses();
        noBytes();
        noHandles();
        depthTooSmall();
        depthTooLarge();
        handlesTooSmall();
        handlesTooLarge();
        lengthTooSmall();
        lengthTooLarge();
        bytesTooSmall();
        bytesTooLarge();
        CHECKS.end();
    }

    private static GraphReader withA(int depth, int handles, int length, int bytes) {
        GraphReader x = new GraphReader(depth, handles, length, bytes);
        x.define(0, Readers.SERIAL, -1, 0);
        return x;
    }

    private static void noClasses() {
        CHECKS.by("No classes, no BYTES.");
        GraphReader x = Readers.fresh();
        for (int number = 0; number < 6; number++) {
            CHECKS.same("field of class " + number, x.field(number, 0, 0), GraphReader.REFUSED);
            CHECKS.same("constant of class " + number, x.constant(number, 0, true), GraphReader.REFUSED);
            CHECKS.same("define of class " + number, x.define(number, 0, -1, 0), GraphReader.DONE);
        }
    }

    private static void noBytes() {
        CHECKS.by("No classes, no BYTES.");
        GraphReader x = Readers.fresh();
        CHECKS.counts("at first", x, 0, 0, 0, 0, 0);
        CHECKS.same("object 0", x.object(0, 0), GraphReader.REFUSED);
        CHECKS.same("value of object 0", x.value(0, 0), GraphReader.NONE);
        CHECKS.same("passBlock", x.passBlock(), GraphReader.REFUSED);
        CHECKS.same("read", x.read(), GraphReader.END);
    }

    private static void noHandles() {
        CHECKS.by("HANDLES: a list, empty at first");
        CHECKS.same("HANDLES", Readers.fresh().count(1), 0);
        CHECKS.fault("a reference", GraphReader.CORRUPT, Readers.fresh(), Hex.ref(0));
        CHECKS.fault("a descriptor's reference", GraphReader.CORRUPT, Readers.fresh(), "73" + Hex.ref(0));
    }

    /** Descriptors in one another's rest ask no limits, so only the innermost, an instance, does. */
    private static String nested(int depth) {
        return Hex.restsWithin(depth - 1) + INSTANCE + Hex.endOfRests(depth - 1);
    }

    private static void depthTooSmall() {
        CHECKS.by("D depth 1 .. 8");
        for (int depth : new int[] {Integer.MIN_VALUE, -1, 0, 1}) {
            CHECKS.reads("depth 1 under " + depth, 0, withA(depth, 60, 20, 700), nested(1));
            CHECKS.fault("depth 2 under " + depth, LIMIT, withA(depth, 60, 20, 700), nested(2));
        }
    }

    private static void depthTooLarge() {
        CHECKS.by("D depth 1 .. 8");
        for (int depth = 2; depth <= 8; depth++) {
            CHECKS.reads("depth " + depth, GraphReader.NULL, withA(depth, 60, 20, 700), nested(depth));
            CHECKS.fault("one deeper than " + depth, LIMIT, withA(depth, 60, 20, 700), nested(depth + 1));
        }
        for (int depth : new int[] {9, Integer.MAX_VALUE}) {
            CHECKS.reads("depth 8 under " + depth, GraphReader.NULL, withA(depth, 60, 20, 700), nested(8));
            CHECKS.fault("depth 9 under " + depth, LIMIT, withA(depth, 60, 20, 700), nested(9));
        }
    }

    private static void handlesTooSmall() {
        CHECKS.by("R handles 1 .. 60");
        String twoEntries = "73" + Hex.desc("A", 0, 2, Hex.desc("B"));
        for (int handles : new int[] {Integer.MIN_VALUE, -1, 0, 1}) {
            CHECKS.reads("1 entry under " + handles, 0, withA(8, handles, 20, 700), INSTANCE);
            CHECKS.fault("2 entries under " + handles, LIMIT, withA(8, handles, 20, 700), twoEntries);
        }
        CHECKS.reads("2 entries under 2", 0, withA(8, 2, 20, 700), twoEntries);
    }

    private static void handlesTooLarge() {
        CHECKS.by("R handles 1 .. 60");
        CHECKS.same("60 entries under 59", behindTexts(59, 59), LIMIT);
        for (int handles : new int[] {60, 61, Integer.MAX_VALUE}) {
            CHECKS.same("60 entries under " + handles, behindTexts(handles, 59), 59);
            CHECKS.same("61 entries under " + handles, behindTexts(handles, 60), LIMIT);
        }
    }

    /** What an instance, whose descriptor is one more entry, answers behind so many texts. */
    private static int behindTexts(int handles, int texts) {
        return Readers.behindTexts(withA(8, handles, 20, 700), texts, INSTANCE).read();
    }

    private static void lengthTooSmall() {
        CHECKS.by("A length 0 .. 20");
        for (int length : new int[] {Integer.MIN_VALUE, -1, 0}) {
            CHECKS.reads("length 0 under " + length, 0, withA(8, 60, length, 700), Hex.ints());
            CHECKS.fault("length 1 under " + length, LIMIT, withA(8, 60, length, 700), Hex.ints(5));
        }
    }

    private static void lengthTooLarge() {
        CHECKS.by("A length 0 .. 20");
        CHECKS.fault("length 20 under 19", LIMIT, withA(8, 60, 19, 700), Hex.ints(new int[20]));
        for (int length : new int[] {20, 21, Integer.MAX_VALUE}) {
            CHECKS.reads("length 20 under " + length, 0, withA(8, 60, length, 700), Hex.ints(new int[20]));
            CHECKS.fault("length 21 under " + length, LIMIT, withA(8, 60, length, 700), Hex.ints(new int[21]));
        }
    }

    private static void bytesTooSmall() {
        CHECKS.by("B bytes 4 .. 700; each clamped.");
        for (int bytes : new int[] {Integer.MIN_VALUE, -1, 3, 4}) {
            CHECKS.fault("an instance under " + bytes, LIMIT, withA(8, 60, 20, bytes), INSTANCE);
            CHECKS.reads("a text under " + bytes, 0, withA(8, 60, 20, bytes), Hex.text("abc"));
        }
    }

    private static void bytesTooLarge() {
        CHECKS.by("B bytes 4 .. 700; each clamped.");
        CHECKS.same("up to byte 700 under 699", behindText(699), LIMIT);
        for (int bytes : new int[] {700, 701, Integer.MAX_VALUE}) {
            CHECKS.same("up to byte 700 under " + bytes, behindText(bytes), 1);
        }
    }

    /** What an instance that ends with the last of 700 bytes answers. */
    private static int behindText(int bytes) {
        GraphReader x = withA(8, 60, 20, bytes);
        Hex.open(x, Hex.text("a".repeat(693 - Hex.size(INSTANCE))), INSTANCE);
        CHECKS.same("BYTES", x.count(4), 700);
        x.read();
        return x.read();
    }
}
