import java.lang.reflect.Method;
import java.lang.reflect.Modifier;

/** The public face, name by name and type by type, and nothing else to be seen. */
public final class FaceTest {
    private static final String INDEX = "java.lang.ArrayIndexOutOfBoundsException";
    private static final String[] FACE = {
        "public int UnwindRig.count(int) throws java.lang.NullPointerException",
        "public int UnwindRig.note(int) throws " + INDEX,
        "public int UnwindRig.set(int,int,int,int,int) throws " + INDEX,
        "public long UnwindRig.run(int,int,int) throws java.lang.ArithmeticException,"
            + "java.lang.IllegalStateException,java.lang.UnsupportedOperationException,"
            + "java.lang.NullPointerException," + INDEX,
    };

    public static void main(String[] args) {
        Class<UnwindRig> type = UnwindRig.class;
        due("class", Modifier.toString(type.getModifiers()), "public final");
        due("constructors", Integer.toString(type.getDeclaredConstructors().length), "1");
        due("constructor", type.getDeclaredConstructors()[0].toString(), "public UnwindRig()");
        due("visible fields", Long.toString(visibleFields(type)), "0");
        methodsAreTheFace(type);
        Bench.end();
    }

    private static void due(String what, String got, String want) {
        Bench.due(what, got, want);
    }

    private static long visibleFields(Class<?> type) {
        return java.util.Arrays.stream(type.getDeclaredFields())
                .filter(field -> !field.isSynthetic() && !Modifier.isPrivate(field.getModifiers()))
                .count();
    }

    private static void methodsAreTheFace(Class<?> type) {
        java.util.TreeSet<String> visible = new java.util.TreeSet<>();
        for (Method method : type.getDeclaredMethods()) {
            if (!method.isSynthetic() && !Modifier.isPrivate(method.getModifiers())) {
                visible.add(method.toString());
            }
        }
        due("methods", visible.toString(), java.util.Arrays.asList(FACE).toString());
    }
}
