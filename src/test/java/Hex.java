/** Writes the parts of a stream as hexadecimal digits, and puts them into a reader. */
final class Hex {
    static final String HEADER = "ACED0005";
    static final String NULL = "70";
    static final String REST_END = "78";
    static final String OBJECTS = "[Ljava.lang.Object;";

    private Hex() {
    }

    static String u1(int number) {
        return String.format("%02X", number & 0xFF);
    }

    static String u2(int number) {
        return String.format("%04X", number & 0xFFFF);
    }

    static String u4(int number) {
        return String.format("%08X", number);
    }

    static String i8(long number) {
        return String.format("%016X", number);
    }

    static String utf(String signs) {
        StringBuilder hex = new StringBuilder(u2(signs.length()));
        for (char sign : signs.toCharArray()) {
            hex.append(u1(sign));
        }
        return hex.toString();
    }

    static String text(String signs) {
        return "74" + utf(signs);
    }

    static String ref(int handle) {
        return "71" + u4(0x7E0000 + handle);
    }

    /** A field of a descriptor; signature is the read behind its name, empty for a primitive one. */
    static String field(char type, String name, String signature) {
        return u1(type) + utf(name) + signature;
    }

    static String field(char type, String name) {
        return field(type, name, "");
    }

    /** A descriptor up to its flags, which come next. */
    static String untilFlags(String name, long id) {
        return "72" + utf(name) + i8(id);
    }

    /** A descriptor up to its rest, which comes next. */
    static String untilRest(String name, long id, int flags, String... fields) {
        return untilFlags(name, id) + u1(flags) + u2(fields.length) + String.join("", fields);
    }

    static String desc(String name, long id, int flags, String above, String... fields) {
        return untilRest(name, id, flags, fields) + REST_END + above;
    }

    /** A descriptor with the id 0 that has nothing above it and no fields. */
    static String desc(String name) {
        return desc(name, 0, 2, NULL);
    }

    static String constantDesc(String name) {
        return desc(name, 0, 0x12, NULL);
    }

    /** So many descriptors above one another, and above them what is given. */
    static String tower(int height, String top) {
        String hex = top;
        for (int k = 0; k < height; k++) {
            hex = desc("X", 0, 2, hex);
        }
        return hex;
    }

    /** So many descriptors, each in the rest of the one before it, up to where the innermost rest begins. */
    static String restsWithin(int depth) {
        return untilRest("X", 0, 2).repeat(depth);
    }

    /** What ends so many rests within one another. */
    static String endOfRests(int depth) {
        return (REST_END + NULL).repeat(depth);
    }

    static String ints(int... numbers) {
        StringBuilder hex = new StringBuilder("75" + desc("[I") + u4(numbers.length));
        for (int number : numbers) {
            hex.append(u4(number));
        }
        return hex.toString();
    }

    static String refs(String... contents) {
        return "75" + desc(OBJECTS) + u4(contents.length) + String.join("", contents);
    }

    static String block(String hex) {
        return "77" + u1(hex.length() / 2) + hex;
    }

    static String longBlock(String hex) {
        return "7A" + u4(hex.length() / 2) + hex;
    }

    static int size(String hex) {
        return hex.length() / 2;
    }

    static void put(GraphReader x, String... parts) {
        String hex = String.join("", parts);
        for (int from = 0; from < hex.length(); from += 16) {
            String next = hex.substring(from, Math.min(hex.length(), from + 16));
            x.put(Long.parseUnsignedLong(next, 16), next.length() / 2);
        }
    }

    /** Puts a header and these bytes and begins. */
    static void open(GraphReader x, String... hex) {
        put(x, HEADER);
        put(x, hex);
        x.begin();
    }
}
