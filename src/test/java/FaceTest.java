import java.lang.reflect.Constructor;
import java.lang.reflect.Field;
import java.lang.reflect.Member;
import java.lang.reflect.Method;
import java.lang.reflect.Modifier;
import java.util.Arrays;
import java.util.List;

/** The public face: every member that the document tells, and no other that can be seen from outside. */
public final class FaceTest {
    private static final Checks CHECKS = new Checks();
    private static final List<String> METHODS = List.of(
            "int define(int, int, int, long)", "int field(int, int, int)", "int constant(int, int, boolean)",
            "int put(long, int)", "int begin()", "int read()", "int passBlock()", "int object(int, int)",
            "long value(int, int)", "int count(int)");
    private static final List<String> FAULTS = List.of("DONE", "REFUSED", "NULL", "END", "CORRUPT", "BAD_CLASS",
            "BAD_OBJECT", "OPTIONAL", "LIMIT", "UNKNOWN", "ABORTED");

    public static void main(String[] args) throws IllegalAccessException {
        theClass();
        theConstants();
        theConstructor();
        theMethods();
        CHECKS.end();
    }

    private static void holds(String what, boolean does) {
        CHECKS.same(what, does ? 1 : 0, 1);
    }

    private static boolean isSeen(Member member) {
        return !Modifier.isPrivate(member.getModifiers()) && !member.isSynthetic();
    }

    private static void theClass() {
        CHECKS.by("public final class GraphReader");
        int modifiers = GraphReader.class.getModifiers();
        holds("public", Modifier.isPublic(modifiers));
        holds("final", Modifier.isFinal(modifiers));
    }

    private static void theConstants() throws IllegalAccessException {
        CHECKS.by("public static final int DONE = 0;");
        int seen = 0;
        for (Field field : GraphReader.class.getDeclaredFields()) {
            if (isSeen(field)) {
                seen++;
                boolean isNone = field.getName().equals("NONE");
                holds("static " + field.getName(), Modifier.isStatic(field.getModifiers()));
                holds("public " + field.getName(), Modifier.isPublic(field.getModifiers()));
                holds("type of " + field.getName(), field.getType() == (isNone ? long.class : int.class));
                long want = isNone ? -9000000000000000000L : -FAULTS.indexOf(field.getName());
                CHECKS.same(field.getName(), field.getLong(null), want);
            }
        }
        CHECKS.same("constants", seen, FAULTS.size() + 1);
    }

    private static void theConstructor() {
        CHECKS.by("public GraphReader(int depth, int handles, int length, int bytes);");
        Constructor<?>[] constructors = GraphReader.class.getDeclaredConstructors();
        CHECKS.same("constructors", constructors.length, 1);
        holds("public", Modifier.isPublic(constructors[0].getModifiers()));
        holds("parameters", Arrays.equals(constructors[0].getParameterTypes(),
                new Class<?>[] {int.class, int.class, int.class, int.class}));
    }

    private static void theMethods() {
        CHECKS.by("public int define(int number, int kind, int superclass, long id);");
        int seen = 0;
        for (Method method : GraphReader.class.getDeclaredMethods()) {
            String parameters = Arrays.toString(method.getParameterTypes());
            String told = method.getReturnType() + " " + method.getName() + "("
                    + parameters.substring(1, parameters.length() - 1) + ")";
            if (isSeen(method)) {
                seen++;
                holds("public " + told, Modifier.isPublic(method.getModifiers()) && METHODS.contains(told));
            }
        }
        CHECKS.same("methods", seen, METHODS.size());
    }
}
