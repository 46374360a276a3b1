import java.io.IOException;
import java.lang.reflect.Constructor;
import java.lang.reflect.Field;
import java.lang.reflect.Method;
import java.lang.reflect.Modifier;
import java.nio.charset.StandardCharsets;
import java.nio.file.Files;
import java.nio.file.Path;
import java.util.Arrays;
import java.util.TreeSet;

/** The document's face, no more and no less, and what of LANGUAGE.md a look at the source can tell. */
public final class FaceTest {
    private static final String INDEX = "IndexOutOfBoundsException";
    private static final String ARGUMENT = "IllegalArgumentException";
    private static final String STATE = "IllegalStateException";

    private static final String[] METHODS = {
        "int begin(int, int, int) " + ARGUMENT,
        "int read(int, int) " + INDEX + " " + STATE,
        "int write(int, int, int) " + INDEX + " " + ARGUMENT + " " + STATE,
        "int takeBack(int) " + INDEX + " " + STATE,
        "int pass(int) " + ARGUMENT + " " + STATE,
        "int drop(int, int) " + INDEX + " " + STATE,
        "int tear(int) " + INDEX + " " + STATE,
        "int copy(int, int, int) " + INDEX + " " + ARGUMENT,
        "int line(int, int) " + INDEX + " " + ARGUMENT,
        "int pending(int, int) " + INDEX + " " + ARGUMENT,
        "int entry(int, int) " + INDEX + " " + ARGUMENT,
        "int value(int) " + ARGUMENT,
        "int cost(int, int, boolean) " + INDEX,
        "int nextTorn()",
        "int nextDropped(int) " + INDEX,
        "int ticksToServe()",
        "int cheapest(int, boolean) " + INDEX,
        "double hitRate()",
        "int append(int) " + ARGUMENT + " " + STATE,
        "int clearText()",
        "int carryOut()",
        "int undo() " + STATE,
        "long digest()",
    };

    private static final String[] FORBIDDEN = {"->", "::", "catch", "finally", "synchronized", "assert", "Exact",
        "package ", "System.out", "Math.random", "Thread", "static {", "instanceof", "import java.io",
        "import java.nio", ".getMessage", "equals(", "hashCode", "toString"};

    public static void main(String[] args) throws IOException {
        face();
        language(Files.readString(Path.of(args[0]), StandardCharsets.ISO_8859_1));
        Check.close();
    }

    private static void face() {
        TreeSet<String> publicMethods = new TreeSet<>();
        for (Method m : CacheDiary.class.getDeclaredMethods()) {
            if (Modifier.isPublic(m.getModifiers())) {
                publicMethods.add(described(m));
                Check.due(m.getName() + " is of the object", false, () -> Modifier.isStatic(m.getModifiers()));
            } else if (!m.isSynthetic()) {
                Check.due(m.getName() + " is private", true, () -> Modifier.isPrivate(m.getModifiers()));
            }
        }
        Check.due("the methods", new TreeSet<>(Arrays.asList(METHODS)), () -> publicMethods);
        for (Field f : CacheDiary.class.getDeclaredFields()) {
            boolean isNone = f.getName().equals("NONE");
            Check.due(f.getName() + " is private, but for NONE", true,
                () -> isNone ? f.getModifiers() == (Modifier.PUBLIC | Modifier.STATIC | Modifier.FINAL)
                    : Modifier.isPrivate(f.getModifiers()));
            Check.due(f.getName() + " is final, if static", true,
                () -> Modifier.isFinal(f.getModifiers()) || !Modifier.isStatic(f.getModifiers()));
        }
        Constructor<?>[] constructors = CacheDiary.class.getDeclaredConstructors();
        Check.due("the constructors", "[public CacheDiary()]", () -> Arrays.toString(constructors));
        Check.due("the class", Modifier.PUBLIC | Modifier.FINAL, () -> CacheDiary.class.getModifiers());
        for (Class<?> inner : CacheDiary.class.getDeclaredClasses()) {
            Check.due(inner + " is static and not public", Modifier.STATIC,
                () -> inner.getModifiers() & (Modifier.STATIC | Modifier.PUBLIC | Modifier.PROTECTED));
            Check.due(inner + " has at most twenty fields", true, () -> inner.getDeclaredFields().length <= 20);
        }
        Check.due("at most twelve classes", true, () -> CacheDiary.class.getDeclaredClasses().length < 12);
    }

    private static String described(Method m) {
        StringBuilder text = new StringBuilder(m.getReturnType() + " " + m.getName() + "(");
        for (int i = 0; i < m.getParameterCount(); i++) {
            text.append(i == 0 ? "" : ", ").append(m.getParameterTypes()[i]);
        }
        text.append(")");
        for (Class<?> thrown : m.getExceptionTypes()) {
            text.append(" ").append(thrown.getSimpleName());
        }
        return text.toString();
    }

    private static void language(String source) {
        for (String word : FORBIDDEN) {
            Check.due("the source holds " + word, false, () -> source.contains(word));
        }
        for (String row : source.split("\n")) {
            if (row.startsWith("import ")) {
                Check.due("an import", "import java.util.Arrays;", () -> row);
            }
        }
        Check.due("signs of the source are 1 to 127", true, () -> source.chars().allMatch(c -> c >= 1 && c <= 127));
    }
}
