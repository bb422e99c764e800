import java.io.IOException;
import java.lang.reflect.Constructor;
import java.lang.reflect.Field;
import java.lang.reflect.Method;
import java.lang.reflect.Modifier;
import java.nio.file.Files;
import java.nio.file.Path;
import java.util.Arrays;
import java.util.Set;
import java.util.TreeSet;

/** The public face is the document's and no more, and the file keeps to LANGUAGE.md. */
public final class FaceTest {
    private static final Set<String> METHODS = new TreeSet<>(Arrays.asList(
        "int kind(int, int)", "boolean change(int, int, int)", "int length(int)",
        "boolean worth(int, int, int)", "boolean size(int, int)", "int pour(int, int)",
        "int run(int, int)", "int best(int, int)", "int cut()", "int block(int, int)",
        "int lay()", "int place(int)", "boolean lift(int)", "int pass(int)",
        "int pieces(int, int)", "int order(int, int, int, int, int)", "int fill(int)",
        "int by(int, int)", "int led(int)", "int shred()", "int count(int)", "int trouble()"));
    private static final String[] RULED_OUT = {
        "->", "::", "finally", "synchronized", "assert ", "Exact(", "package ", "catch", "static {",
        "protected", "System.out", "Random", "Thread", "native", "getMessage", "hashCode",
    };

    private static final Check check = new Check();

    public static void main(String[] args) throws IOException {
        methods();
        fields();
        shape(FoamBlocks.class);
        for (Class<?> c : FoamBlocks.class.getDeclaredClasses()) {
            shape(c);
        }
        source(Files.readString(Path.of(args.length > 0 ? args[0] : "src/main/java/FoamBlocks.java")));
        check.end();
    }

    private static void methods() {
        int mods = FoamBlocks.class.getModifiers();
        check.due("public and final", Modifier.isPublic(mods) && Modifier.isFinal(mods), true);
        Set<String> found = new TreeSet<>();
        for (Method m : FoamBlocks.class.getDeclaredMethods()) {
            if (Modifier.isPublic(m.getModifiers())) {
                String parameters = Arrays.toString(m.getParameterTypes());
                found.add(m.getReturnType() + " " + m.getName() + "("
                    + parameters.substring(1, parameters.length() - 1) + ")");
            }
        }
        check.due("public methods are " + found, found.equals(METHODS), true);
        for (Method m : FoamBlocks.class.getDeclaredMethods()) {
            if (!Modifier.isPublic(m.getModifiers()) && !m.isSynthetic()) {
                check.due(m + " is private", Modifier.isPrivate(m.getModifiers()), true);
            }
        }
        Constructor<?>[] made = FoamBlocks.class.getDeclaredConstructors();
        check.due("constructors", made.length, 1);
        check.due("its parameters", made[0].getParameterCount(), 0);
    }

    private static void fields() {
        for (Field f : FoamBlocks.class.getDeclaredFields()) {
            int mods = f.getModifiers();
            boolean isNone = f.getName().equals("NONE") && f.getType() == int.class
                && Modifier.isPublic(mods) && Modifier.isStatic(mods) && Modifier.isFinal(mods);
            check.due(f + " is NONE or private", isNone || Modifier.isPrivate(mods), true);
        }
        for (Class<?> c : FoamBlocks.class.getDeclaredClasses()) {
            check.due(c + " is static", Modifier.isStatic(c.getModifiers()), true);
            check.due(c + " is not public", Modifier.isPublic(c.getModifiers()), false);
        }
    }

    /** LANGUAGE.md, rules 1, 3, 5, 6 and 11, as far as a compiled class shows them. */
    private static void shape(Class<?> c) {
        int own = 0;
        for (Field f : c.getDeclaredFields()) {
            boolean isStatic = Modifier.isStatic(f.getModifiers());
            own += isStatic ? 0 : 1;
            check.due(f + " is an own field or a constant number",
                !isStatic || (Modifier.isFinal(f.getModifiers()) && f.getType() == int.class), true);
            Class<?> held = f.getType().isArray() ? f.getType().getComponentType() : f.getType();
            boolean may = held.isPrimitive() || held.getEnclosingClass() == FoamBlocks.class;
            check.due(f + " holds numbers or a class of the file", may, true);
        }
        check.due(c + " has some twenty fields at most", own <= 20, true);
        for (Method m : c.getDeclaredMethods()) {
            check.due(m + " takes seven at most", m.getParameterCount() <= 7, true);
            boolean onlyNamed = m.getExceptionTypes().length == (m.getName().equals("by") ? 1 : 0);
            check.due(m + " throws what the document names", onlyNamed, true);
            boolean isFace = c == FoamBlocks.class && Modifier.isPublic(m.getModifiers());
            boolean isNamedSo = METHODS.stream().anyMatch(f -> f.contains(" " + m.getName() + "("));
            check.due(m + " has a name of its own", isFace || !isNamedSo, true);
        }
        check.due("classes in the file", FoamBlocks.class.getDeclaredClasses().length <= 11, true);
        check.due(c + " has no classes in it", c == FoamBlocks.class
            || c.getDeclaredClasses().length == 0, true);
    }

    /** Rule 11: a method has some sixty lines at most; it ends at a brace as far in as it begins. */
    private static void methodLengths(String text) {
        String[] lines = text.split("\n");
        int begins = -1;
        for (int i = 0; i < lines.length; i++) {
            if (lines[i].matches(" {4}( {4})?(?!if|for|while|switch)\\w.*\\) (throws \\w+ )?\\{")) {
                begins = i;
            }
            if (begins >= 0 && lines[i].equals(lines[begins].replaceFirst("\\S.*", "}"))) {
                check.due("lines of" + lines[begins], i - begins < 60, true);
                begins = -1;
            }
        }
    }

    private static void source(String text) {
        methodLengths(text);
        String code = text.replaceAll("(?s)/\\*.*?\\*/", "").replaceAll("//.*", "");
        for (String word : RULED_OUT) {
            check.due("'" + word + "' stands in the file", code.contains(word), false);
        }
        for (String line : code.split("\n")) {
            if (line.startsWith("import ")) {
                boolean may = line.equals("import java.util.Arrays;")
                    || line.equals("import java.util.NoSuchElementException;");
                check.due(line, may, true);
            }
        }
        check.due("signs above 127", text.chars().anyMatch(c -> c > 127), false);
    }
}
