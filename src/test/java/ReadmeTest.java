/** The calls of README.md's example, line by line, and the answers that stand behind them there. */
public final class ReadmeTest {
    private static final Checks CHECKS = new Checks();

    public static void main(String[] args) {
        CHECKS.by("Answers the object's number, NULL, or the fault.");
        GraphReader reader = new GraphReader(8, 60, 20, 700);
        CHECKS.same("define", reader.define(0, 1, -1, 9L), GraphReader.DONE);
        CHECKS.same("field", reader.field(0, 0, 2), 1);
        CHECKS.same("put", reader.put(0xACED000573720001L, 8), 8);
        CHECKS.same("put", reader.put(0x4100000000000000L, 8), 16);
        CHECKS.same("put", reader.put(0x0902000149000161L, 8), 24);
        CHECKS.same("put", reader.put(0x787000000005L, 6), 30);
        CHECKS.same("begin", reader.begin(), 4);
        CHECKS.same("read", reader.read(), 0);
        CHECKS.same("its sort", reader.object(0, 0), 0);
        CHECKS.same("its class", reader.object(0, 1), 0);
        CHECKS.same("its first slot", reader.value(0, 0), 5);
        CHECKS.same("read where no byte is left", reader.read(), GraphReader.END);
        CHECKS.same("the fault that lasts", reader.count(3), GraphReader.END);
        CHECKS.end();
    }
}
