/** Terms: the numbers and signs that bytes are read as, and where bytes end. */
public final class BytesAndNumbersTest {
    private static final Checks CHECKS = new Checks();
    private static final int NULL = GraphReader.NULL;
    private static final int END = GraphReader.END;
    private static final int CORRUPT = GraphReader.CORRUPT;

    public static void main(String[] args) {
        highestFirst();
        u2IsNotBelow0();
        u4IsAnInt();
        i8IsALong();
        utfOfEveryLength();
        everySignOfAText();
        everySignOfAClassName();
        everySignOfAFieldName();
        signsComeOneAfterAnother();
        placeIs0AtFirst();
        placeGoesOn();
        endAtEveryByte();
        endAtByte700();
        endLastsInSpiteOfMoreBytes();
        CHECKS.end();
    }

    private static void highestFirst() {
        CHECKS.by("a number of several bytes has its highest first");
        GraphReader x = Readers.withFields(Readers.SERIAL, 1, 2, 3, 4);
        CHECKS.reads("an instance", 0, x, "73" + Hex.desc("A", 0, 2, Hex.NULL, Hex.field('C', "a"), Hex.field('I', "b"),
                Hex.field('J', "c"), Hex.field('S', "d")) + "0102" + "01020304" + "0102030405060708" + "0102");
        CHECKS.values("SLOTS", x, 0, 0x0102, 0x01020304, 0x0102030405060708L, 0x0102);
    }

    private static void u2IsNotBelow0() {
        CHECKS.by("(U2 not below 0, U4 an int, I8 a long)");
        for (String length : new String[] {"8000", "FFFF"}) {
            CHECKS.fault("a text's length", END, Readers.fresh(), "74" + length + "61");
            CHECKS.fault("a class name's length", END, Readers.fresh(), "72" + length + "61");
            CHECKS.fault("how many fields", GraphReader.BAD_CLASS, Readers.fresh(), Hex.untilFlags("X", 0) + "02" + length);
        }
    }

    private static void u4IsAnInt() {
        CHECKS.by("(U2 not below 0, U4 an int, I8 a long)");
        GraphReader x = Readers.fresh();
        CHECKS.reads("INTS", 0, x, Hex.ints(0, Integer.MAX_VALUE, Integer.MIN_VALUE, -1));
        CHECKS.values("places", x, 0, 0, Integer.MAX_VALUE, Integer.MIN_VALUE, -1);
    }

    private static void i8IsALong() {
        CHECKS.by("(U2 not below 0, U4 an int, I8 a long)");
        for (long number : new long[] {Long.MIN_VALUE, GraphReader.NONE, -1, 0, 1, Long.MAX_VALUE}) {
            GraphReader x = Readers.withFields(Readers.SERIAL, 3);
            CHECKS.reads("an instance", 0, x, "73" + Hex.desc("A", 0, 2, Hex.NULL, Hex.field('J', "a")) + Hex.i8(number));
            CHECKS.same("the number", x.value(0, 0), number);
        }
    }

    private static void utfOfEveryLength() {
        CHECKS.by("UTF: U2 as a length, then so many bytes one after another, a sign each");
        for (int length : new int[] {0, 1, 2, 127, 128, 255, 256, 257, 693}) {
            GraphReader x = Readers.fresh();
            CHECKS.reads("a text of " + length, 0, x, Hex.text("a".repeat(length)));
            CHECKS.same("signs of " + length, x.object(0, 2), length);
        }
        CHECKS.reads("a class name of none", NULL, Readers.fresh(), Hex.desc(""));
        CHECKS.reads("a class name of 256", NULL, Readers.fresh(), Hex.desc("a".repeat(256)));
        CHECKS.reads("a field name of none", NULL, Readers.fresh(), Hex.desc("X", 0, 2, Hex.NULL, Hex.field('I', "")));
        CHECKS.reads("a field name of 256", NULL, Readers.fresh(),
                Hex.desc("X", 0, 2, Hex.NULL, Hex.field('I', "a".repeat(256))));
    }

    private static int wantFor(int sign, int good) {
        return sign == 0 || sign > 0x7F ? CORRUPT : good;
    }

    private static void everySignOfAText() {
        CHECKS.by("a byte above 7F, or 00, in it is the fault CORRUPT");
        for (int sign = 0; sign < 256; sign++) {
            GraphReader x = Readers.opened("740003" + "61" + Hex.u1(sign) + "61");
            CHECKS.same("the sign " + sign, x.read(), wantFor(sign, 0));
            CHECKS.same("its code", x.value(0, 1), wantFor(sign, 0) == 0 ? sign : GraphReader.NONE);
        }
    }

    private static void everySignOfAClassName() {
        CHECKS.by("a byte above 7F, or 00, in it is the fault CORRUPT");
        for (int sign = 0; sign < 256; sign++) {
            GraphReader x = Readers.opened("720001" + Hex.u1(sign) + Hex.i8(0) + "02" + "0000" + "78" + "70");
            CHECKS.same("the sign " + sign, x.read(), wantFor(sign, NULL));
        }
    }

    private static void everySignOfAFieldName() {
        CHECKS.by("a byte above 7F, or 00, in it is the fault CORRUPT");
        for (int sign = 0; sign < 256; sign++) {
            GraphReader x = Readers.opened(Hex.desc("X", 0, 2, Hex.NULL, "49" + "0001" + Hex.u1(sign)));
            CHECKS.same("the sign " + sign, x.read(), wantFor(sign, NULL));
        }
    }

    private static void signsComeOneAfterAnother() {
        CHECKS.by("UTF: U2 as a length, then so many bytes one after another, a sign each");
        CHECKS.fault("a wrong sign before one that is missing", CORRUPT, Readers.fresh(), "740003" + "61" + "80");
        CHECKS.fault("one that is missing", END, Readers.fresh(), "740003" + "6161");
        CHECKS.fault("a wrong sign in a long name", CORRUPT, Readers.fresh(), "72FFFF" + "00");
    }

    private static void placeIs0AtFirst() {
        CHECKS.by("PLACE is where reading goes on, 0 at first.");
        GraphReader x = Readers.fresh();
        Hex.put(x, Hex.text("a"), Hex.block("00"), Hex.ref(0));
        CHECKS.same("a text before begin", x.read(), 0);
        CHECKS.same("a block before begin", x.passBlock(), 1);
        CHECKS.same("a reference before begin", x.read(), 0);
        CHECKS.counts("before begin", x, 12, 1, 1, 0, 12);
        GraphReader y = Readers.fresh();
        Hex.put(y, Hex.HEADER);
        CHECKS.same("a header is no content", y.read(), CORRUPT);
        CHECKS.same("PLACE", y.count(0), 0);
    }

    private static void placeGoesOn() {
        CHECKS.by("PLACE is where reading goes on, 0 at first.");
        String[] parts = {Hex.NULL, Hex.text("ab"), Hex.ref(0), Hex.desc("X"), Hex.ints(1, 2), Hex.refs(Hex.NULL)};
        GraphReader x = Readers.opened(parts);
        int place = 4;
        for (String part : parts) {
            x.read();
            place += Hex.size(part);
            CHECKS.same("PLACE", x.count(0), place);
        }
    }

    /** Every sort of content and every part of it; fields, rests and what is above are there too. */
    private static String everySort() {
        String upper = Hex.desc("B", 0, 3, Hex.NULL, Hex.field('J', "a"), Hex.field('[', "b", Hex.text("[I")));
        String lower = Hex.untilRest("A", 0, 3, Hex.field('C', "c"), Hex.field('L', "d", Hex.text("s")))
                + Hex.block("7878") + Hex.longBlock("78") + Hex.text("r") + "78" + upper;
        return "79" + Hex.NULL + "73" + lower + Hex.i8(5) + Hex.ints(6, 7) + Hex.block("0000000800") + "78" + "0009"
                + Hex.refs(Hex.text("t"), Hex.NULL) + Hex.block("") + Hex.longBlock("0102") + "78"
                + "7E" + Hex.constantDesc("C") + Hex.text("a") + Hex.text("end");
    }

    private static GraphReader readerOf(String hex) {
        GraphReader x = Readers.with(Readers.CUSTOM, Readers.SERIAL, Readers.CONSTANT);
        x.constant(2, 0, true);
        Hex.open(x, hex);
        return x;
    }

    private static void endAtEveryByte() {
        CHECKS.by("Whatever needs a byte where there is none is the fault END.");
        String whole = everySort();
        CHECKS.readsInTurn(readerOf(whole), NULL, 3, 8, 9, END);
        for (int cut = 0; cut < whole.length(); cut += 2) {
            GraphReader x = readerOf(whole.substring(0, cut));
            int answer = x.read();
            for (int reads = 0; reads < 4 && answer >= NULL; reads++) {
                answer = x.read();
            }
            CHECKS.same("behind " + cut / 2 + " bytes", answer, END);
        }
    }

    private static void endAtByte700() {
        CHECKS.by("Whatever needs a byte where there is none is the fault END.");
        String[] parts = {"74", "7400", "740001", "71007E00", "72", "73", "75", "7E", Hex.untilFlags("X", 0)};
        for (String part : parts) {
            GraphReader x = Readers.opened(Hex.text("a".repeat(693 - Hex.size(part))), part);
            x.read();
            CHECKS.same("BYTES", x.count(4), 700);
            CHECKS.same("a read of " + part, x.read(), END);
        }
        GraphReader y = Readers.opened(Hex.text("a".repeat(693)));
        CHECKS.readsInTurn(y, 0, END);
        CHECKS.counts("behind 700", y, 700, 1, 1, END, 700);
    }

    private static void endLastsInSpiteOfMoreBytes() {
        CHECKS.by("all later READS end in it at once, until begin.");
        GraphReader x = Readers.opened("74");
        CHECKS.same("a part of a text", x.read(), END);
        Hex.put(x, Hex.utf("a"));
        CHECKS.same("when the text is there", x.read(), END);
        x.begin();
        CHECKS.same("begun again", x.read(), 0);
    }
}
