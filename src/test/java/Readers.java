/** Readers that tests begin with, their limits as wide as can be. */
final class Readers {
    static final int PLAIN = 0;
    static final int SERIAL = 1;
    static final int CUSTOM = 2;
    static final int CONSTANT = 3;
    static final int RECORD = 4;

    private Readers() {
    }

    static GraphReader fresh() {
        return new GraphReader(8, 60, 20, 700);
    }

    /** Classes A, B, .. of these kinds, with the id 0 and no superclass. */
    static GraphReader with(int... kinds) {
        GraphReader x = fresh();
        for (int number = 0; number < kinds.length; number++) {
            x.define(number, kinds[number], -1, 0);
        }
        return x;
    }

    static GraphReader withEveryKind() {
        return with(PLAIN, SERIAL, CUSTOM, CONSTANT, RECORD);
    }
}
