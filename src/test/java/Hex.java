/** Writes the parts of a stream as hexadecimal digits, and puts them into a reader. */
final class Hex {
    static final String HEADER = "ACED0005";
    static final String NULL = "70";
    static final String REST_END = "78";

    private Hex() {
    }

    static String u1(int number) {
        return String.format("%02X", number & 0xFF);
    }

    static String u2(int number) {
        return String.format("%04X", number & 0xFFFF);
    }

    static String u4(int number) {
        return String.format("%08X", number);
    }

    static String i8(long number) {
        return String.format("%016X", number);
    }

    static String utf(String signs) {
        StringBuilder hex = new StringBuilder(u2(signs.length()));
        for (char sign : signs.toCharArray()) {
            hex.append(u1(sign));
        }
        return hex.toString();
    }

    static String text(String signs) {
        return "74" + utf(signs);
    }

    static String ref(int handle) {
        return "71" + u4(0x7E0000 + handle);
    }

    /** A field of a descriptor; signature is the read behind its name, empty for a primitive one. */
    static String field(char type, String name, String signature) {
        return u1(type) + utf(name) + signature;
    }

    static String field(char type, String name) {
        return field(type, name, "");
    }

    static String desc(String name, long id, int flags, String above, String... fields) {
        return "72" + utf(name) + i8(id) + u1(flags) + u2(fields.length) + String.join("", fields) + REST_END + above;
    }

    static String ints(int... numbers) {
        StringBuilder hex = new StringBuilder("75" + desc("[I", 0, 2, NULL) + u4(numbers.length));
        for (int number : numbers) {
            hex.append(u4(number));
        }
        return hex.toString();
    }

    static String refs(String... contents) {
        return "75" + desc("[Ljava.lang.Object;", 0, 2, NULL) + u4(contents.length) + String.join("", contents);
    }

    static String block(String hex) {
        return "77" + u1(hex.length() / 2) + hex;
    }

    static String longBlock(String hex) {
        return "7A" + u4(hex.length() / 2) + hex;
    }

    static void put(GraphReader x, String... parts) {
        String hex = String.join("", parts);
        for (int from = 0; from < hex.length(); from += 16) {
            String next = hex.substring(from, Math.min(hex.length(), from + 16));
            x.put(Long.parseUnsignedLong(next, 16), next.length() / 2);
        }
    }

    /** Puts a header and these bytes and begins. */
    static void open(GraphReader x, String... hex) {
        put(x, HEADER);
        put(x, hex);
        x.begin();
    }
}
