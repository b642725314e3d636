/** What it is: whole graphs for each part of the document's first sentence. */
public final class WhatItIsTest {
    private static final Checks CHECKS = new Checks();

    public static void main(String[] args) {
        changedClasses();
        sharingAndRings();
        everyMalformedByte();
        nothingIsMadeBeyondLimits();
        CHECKS.end();
    }

    /** The writer's D had a, b and F above it; here D has lost b and F, has got c, and C is above it. */
    private static void changedClasses() {
        CHECKS.by("descriptors are matched with local classes that may have changed");
        GraphReader x = Readers.fresh();
        x.define(2, Readers.PLAIN, -1, 0);
        x.define(3, Readers.SERIAL, 2, 9);
        x.field(2, 25, 2);
        x.field(3, 0, 2);
        x.field(3, 2, 3);
        String above = Hex.desc("F", 4, 2, Hex.NULL, Hex.field('J', "q"));
        String written = Hex.desc("D", 9, 2, above, Hex.field('S', "b"), Hex.field('I', "a"));
        CHECKS.reads("an instance", 0, x, "73" + written, Hex.i8(77), Hex.u2(66), Hex.u4(-5));
        CHECKS.values("the constructor's 7, a as written, c as at first", x, 0, 7, -5, 0);
    }

    /** A list of two nodes, each with the other as its next and both with one text. */
    private static void sharingAndRings() {
        CHECKS.by("sharing and rings are built again");
        GraphReader x = Readers.withFields(Readers.SERIAL, 7, 7);
        String node = Hex.desc("A", 0, 2, Hex.NULL, Hex.field('L', "a", Hex.text("s")), Hex.field('L', "b", Hex.ref(3)));
        String second = "73" + Hex.ref(2) + Hex.ref(4) + Hex.text("x");
        CHECKS.reads("an array", 0, x, Hex.refs("73" + node + second + Hex.ref(6), Hex.ref(5)));
        CHECKS.values("the array", x, 0, 2, 3);
        CHECKS.values("the first node", x, 2, 3, 4);
        CHECKS.values("the second node", x, 3, 2, 4);
        CHECKS.counts("all", x, x.count(4), 7, 5);
    }

    /** Whatever one byte of a sound stream is changed to, a read answers an object, NULL or a fault of the face. */
    private static void everyMalformedByte() {
        CHECKS.by("every malformed byte ends in a named fault");
        String sound = "73" + Hex.desc("A", 0, 3, Hex.NULL, Hex.field('I', "a"), Hex.field('L', "b", Hex.text("s")))
                + Hex.u4(1) + Hex.refs(Hex.text("x"), Hex.ref(2)) + Hex.block("00000004") + Hex.REST_END;
        CHECKS.reads("a sound stream", 1, Readers.withFields(Readers.CUSTOM, 2, 7), sound);
        for (int at = 0; at < sound.length(); at += 2) {
            for (int to = 0; to < 256; to++) {
                String spoilt = sound.substring(0, at) + Hex.u1(to) + sound.substring(at + 2);
                GraphReader x = Readers.withFields(Readers.CUSTOM, 2, 7);
                Hex.open(x, spoilt);
                checkNamed("byte " + at / 2 + " as " + Hex.u1(to), x);
            }
        }
    }

    private static void checkNamed(String what, GraphReader x) {
        int answer = x.read();
        boolean isFault = answer < GraphReader.NULL;
        boolean isNamed = answer >= GraphReader.ABORTED && answer != GraphReader.REFUSED && answer < x.count(2);
        CHECKS.same(what + ": a named answer", isNamed ? 1 : 0, 1);
        CHECKS.same(what + ": what lasts", x.count(3), isFault && answer != GraphReader.OPTIONAL ? answer : 0);
        if (isFault) {
            CHECKS.counts(what, x, 4, 0, 0);
        }
    }

    /** The limit is told although the bytes of the array that would be made are not there. */
    private static void nothingIsMadeBeyondLimits() {
        CHECKS.by("limits are asked before anything is made");
        String array = "75" + Hex.desc("[I");
        CHECKS.fault("the greatest length", GraphReader.LIMIT, Readers.fresh(), array, Hex.u4(Integer.MAX_VALUE));
        CHECKS.fault("a length of 21", GraphReader.LIMIT, Readers.fresh(), array, Hex.u4(21));
        CHECKS.fault("a length of 20", GraphReader.END, Readers.fresh(), array, Hex.u4(20));
        GraphReader barred = Readers.withFields(Readers.SERIAL, 2);
        barred.constant(0, 0, true);
        CHECKS.fault("a barred class", GraphReader.LIMIT, barred, "73", Hex.desc("A", 0, 2, Hex.NULL, Hex.field('I', "a")));
    }
}
