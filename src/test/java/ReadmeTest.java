import java.io.IOException;
import java.nio.file.DirectoryStream;
import java.nio.file.Files;
import java.nio.file.Path;
import java.util.regex.Matcher;
import java.util.regex.Pattern;

/** What README.md shows: its calls answer as it says, and the tests that it names are there. */
public final class ReadmeTest {
    private static final Pattern CALL = Pattern.compile(
            "rig\\.(\\w+)\\(([-0-9, ]+)\\);\\s*// (\\S+): .*");
    private static final Pattern TEST = Pattern.compile("`(\\w+Test)?(?:\\.(\\w+))?`");

    public static void main(String[] args) throws IOException, ReflectiveOperationException {
        String text = Files.readString(Path.of(args[1]));
        asksEachCall(text);
        findsEachNamedTest(text);
        namesEachTest(text, Path.of("src/test/java"));
        Bench.end();
    }

    /** A line with a rig that does not read as a call and its answer is not as due, either. */
    private static void asksEachCall(String text) {
        UnwindRig rig = new UnwindRig();
        for (String line : text.split("\n")) {
            if (line.startsWith("rig.")) {
                Matcher call = CALL.matcher(line);
                boolean reads = call.matches();
                Bench.due(line, reads ? answer(rig, call.group(1), numbers(call.group(2))) : "?",
                        reads ? call.group(3) : "a call and its answer");
            }
        }
    }

    private static int[] numbers(String list) {
        String[] texts = list.split(", ");
        int[] numbers = new int[texts.length];
        for (int i = 0; i < texts.length; i++) {
            numbers[i] = Integer.parseInt(texts[i]);
        }
        return numbers;
    }

    private static String answer(UnwindRig rig, String name, int[] of) {
        switch (name + of.length) {
            case "set5":
                return Bench.setOf(rig, of[0], of[1], of[2], of[3], of[4]);
            case "run3":
                return Bench.runOf(rig, of[0], of[1], of[2]);
            case "note1":
                return Bench.noteOf(rig, of[0]);
            case "count1":
                return Bench.countOf(rig, of[0]);
            default:
                return "no such call";
        }
    }

    /** `.name` stands for a test in the file that was named before it. */
    private static void findsEachNamedTest(String text) throws ReflectiveOperationException {
        Class<?> file = null;
        Matcher named = TEST.matcher(text);
        while (named.find()) {
            if (named.group(1) != null) {
                file = Class.forName(named.group(1));
            }
            if (named.group(2) != null) {
                Bench.due(named.group(), hasTest(file, named.group(2)) ? "there" : "missing", "there");
            }
        }
    }

    private static boolean hasTest(Class<?> file, String name) {
        if (file != null) {
            for (java.lang.reflect.Method method : file.getDeclaredMethods()) {
                if (method.getName().equals(name)) {
                    return true;
                }
            }
        }
        return false;
    }

    private static void namesEachTest(String text, Path folder) throws IOException {
        try (DirectoryStream<Path> files = Files.newDirectoryStream(folder, "*.java")) {
            for (Path file : files) {
                String name = file.getFileName().toString().replace(".java", "");
                Bench.due(name, text.contains("`" + name + "`") ? "named" : "not named", "named");
            }
        }
    }
}
