import java.lang.reflect.Method;
import java.lang.reflect.Modifier;
import java.nio.charset.StandardCharsets;
import java.nio.file.Files;
import java.nio.file.Path;

/** The public face, name by name and type by type, and the rules of LANGUAGE.md that a text shows. */
public final class FaceTest {
    private static final String INDEX = "java.lang.ArrayIndexOutOfBoundsException";
    private static final String[] FACE = {
        "public int UnwindRig.count(int) throws java.lang.NullPointerException",
        "public int UnwindRig.note(int) throws " + INDEX,
        "public int UnwindRig.set(int,int,int,int,int) throws " + INDEX,
        "public long UnwindRig.run(int,int,int) throws java.lang.ArithmeticException,"
            + "java.lang.IllegalStateException,java.lang.UnsupportedOperationException,"
            + "java.lang.NullPointerException," + INDEX,
    };
    private static final String[] RULED_OUT = {"finally", "synchronized", "assert ", "->", "::",
        "package ", "import static", "Exact(", "getMessage", " extends RuntimeException"};

    public static void main(String[] args) throws java.io.IOException {
        Class<UnwindRig> type = UnwindRig.class;
        due("class", Modifier.toString(type.getModifiers()), "public final");
        due("constructors", Integer.toString(type.getDeclaredConstructors().length), "1");
        due("constructor", type.getDeclaredConstructors()[0].toString(), "public UnwindRig()");
        due("visible fields", Long.toString(visibleFields(type)), "0");
        methodsAreTheFace(type);
        textKeepsTheRules(Files.readString(Path.of(args[0]), StandardCharsets.UTF_8));
        Bench.end();
    }

    private static void due(String what, String got, String want) {
        Bench.due(what, got, want);
    }

    private static long visibleFields(Class<?> type) {
        return java.util.Arrays.stream(type.getDeclaredFields())
                .filter(field -> !Modifier.isPrivate(field.getModifiers()))
                .count();
    }

    private static void methodsAreTheFace(Class<?> type) {
        java.util.TreeSet<String> visible = new java.util.TreeSet<>();
        for (Method method : type.getDeclaredMethods()) {
            if (!Modifier.isPrivate(method.getModifiers())) {
                visible.add(method.toString());
            }
        }
        due("methods", visible.toString(), java.util.Arrays.asList(FACE).toString());
    }

    private static void textKeepsTheRules(String text) {
        for (String word : RULED_OUT) {
            due("text has " + word, Boolean.toString(text.contains(word)), "false");
        }
        boolean plain = text.chars().allMatch(c -> c == '\n' || c >= 32 && c < 127);
        due("text is plain ASCII", Boolean.toString(plain), "true");
    }
}
