import java.io.IOException;
import java.lang.reflect.Constructor;
import java.lang.reflect.Field;
import java.lang.reflect.Method;
import java.lang.reflect.Modifier;
import java.nio.file.Files;
import java.nio.file.Path;
import java.util.Arrays;
import java.util.Set;
import java.util.TreeSet;

/** The public face is the document's and no more, and the file keeps to LANGUAGE.md. */
public final class FaceTest {
    private static final Set<String> METHODS = new TreeSet<>(Arrays.asList(
        "int kind(int, int)", "boolean change(int, int, int)", "int length(int)",
        "boolean worth(int, int, int)", "boolean size(int, int)", "int pour(int, int)",
        "int run(int, int)", "int best(int, int)", "int cut()", "int block(int, int)",
        "int lay()", "int place(int)", "boolean lift(int)", "int pass(int)",
        "int pieces(int, int)", "int order(int, int, int, int, int)", "int fill(int)",
        "int by(int, int)", "int led(int)", "int shred()", "int count(int)", "int trouble()"));
    private static final String[] RULED_OUT = {
        "->", "::", "finally", "synchronized", "assert ", "Exact(", "package ", "catch", "static {",
        "protected", "System.out", "Random", "Thread", "native", "getMessage", "hashCode",
    };

    private static final Check check = new Check();

    public static void main(String[] args) throws IOException {
        methods();
        fields();
        source(Files.readString(Path.of(args.length > 0 ? args[0] : "src/main/java/FoamBlocks.java")));
        check.end();
    }

    private static void methods() {
        int mods = FoamBlocks.class.getModifiers();
        check.due("public and final", Modifier.isPublic(mods) && Modifier.isFinal(mods), true);
        Set<String> found = new TreeSet<>();
        Set<String> names = new TreeSet<>();
        for (Method m : FoamBlocks.class.getDeclaredMethods()) {
            if (Modifier.isPublic(m.getModifiers())) {
                String parameters = Arrays.toString(m.getParameterTypes());
                found.add(m.getReturnType() + " " + m.getName() + "("
                    + parameters.substring(1, parameters.length() - 1) + ")");
                names.add(m.getName());
            }
        }
        check.due("public methods are " + found, found.equals(METHODS), true);
        for (Method m : FoamBlocks.class.getDeclaredMethods()) {
            if (!Modifier.isPublic(m.getModifiers()) && !m.isSynthetic()) {
                check.due(m + " is private", Modifier.isPrivate(m.getModifiers()), true);
                check.due(m + " has a name of its own", !names.contains(m.getName()), true);
            }
        }
        Constructor<?>[] made = FoamBlocks.class.getDeclaredConstructors();
        check.due("constructors", made.length, 1);
        check.due("its parameters", made[0].getParameterCount(), 0);
    }

    private static void fields() {
        for (Field f : FoamBlocks.class.getDeclaredFields()) {
            int mods = f.getModifiers();
            boolean isNone = f.getName().equals("NONE") && f.getType() == int.class
                && Modifier.isPublic(mods) && Modifier.isStatic(mods) && Modifier.isFinal(mods);
            check.due(f + " is NONE or private", isNone || Modifier.isPrivate(mods), true);
        }
        for (Class<?> c : FoamBlocks.class.getDeclaredClasses()) {
            check.due(c + " is static", Modifier.isStatic(c.getModifiers()), true);
            check.due(c + " is not public", Modifier.isPublic(c.getModifiers()), false);
        }
    }

    private static void source(String text) {
        String code = text.replaceAll("(?s)/\\*.*?\\*/", "").replaceAll("//.*", "");
        for (String word : RULED_OUT) {
            check.due("'" + word + "' stands in the file", code.contains(word), false);
        }
        for (String line : code.split("\n")) {
            if (line.startsWith("import ")) {
                boolean may = line.equals("import java.util.Arrays;")
                    || line.equals("import java.util.NoSuchElementException;");
                check.due(line, may, true);
            }
        }
        check.due("signs above 127", text.chars().anyMatch(c -> c > 127), false);
    }
}
