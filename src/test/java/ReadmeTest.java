import java.io.IOException;
import java.lang.reflect.Method;
import java.lang.reflect.Modifier;
import java.net.URL;
import java.net.URLClassLoader;
import java.nio.charset.StandardCharsets;
import java.nio.file.Files;
import java.nio.file.Path;
import java.util.ArrayList;
import java.util.Comparator;
import java.util.List;
import java.util.TreeSet;
import java.util.regex.Matcher;
import java.util.regex.Pattern;
import java.util.stream.Stream;
import javax.tools.JavaCompiler;
import javax.tools.ToolProvider;

/** README.md: its examples are compiled and run, and the calls and the tests that it lists are those that there are. */
public final class ReadmeTest {
    private static final Pattern EXAMPLE = Pattern.compile("```java\n(.*?)```", Pattern.DOTALL);
    private static final Pattern ROW = Pattern.compile("(x\\..*\\));\\s+// (\\S+): .*");
    private static final Pattern TEST = Pattern.compile("(?m)^- `(\\w+Test)`: ");

    public static void main(String[] args) throws Exception {
        Path root = Path.of(args[0]).toAbsolutePath().getParent().getParent().getParent().getParent();
        String readme = Files.readString(root.resolve("README.md"), StandardCharsets.UTF_8);
        examples(readme);
        calls(readme);
        tests(readme, root.resolve("src/test/java"));
        Check.close();
    }

    private static void examples(String readme) throws Exception {
        Matcher example = EXAMPLE.matcher(readme);
        int count = 0;
        while (example.find()) {
            count++;
            List<String> rows = new ArrayList<>();
            List<String> answers = new ArrayList<>();
            String source = sourceOf(example.group(1), rows, answers);
            List<?> got = run(source);
            Check.due("the answers in the example " + count, rows.size(), () -> got.size());
            for (int i = 0; i < Math.min(rows.size(), got.size()); i++) {
                int row = i;
                Check.due("README.md, " + rows.get(row), answers.get(row), () -> got.get(row));
            }
        }
        int examples = count;
        Check.due("the examples in README.md", 2, () -> examples);
    }

    /** Each row that tells its answer puts it into a list; the others stand as they are. */
    private static String sourceOf(String example, List<String> rows, List<String> answers) {
        StringBuilder source = new StringBuilder("public final class Example {\n"
            + "public static java.util.List<Object> answers() {\n"
            + "java.util.List<Object> answers = new java.util.ArrayList<>();\n");
        for (String line : example.split("\n")) {
            Matcher row = ROW.matcher(line);
            if (row.matches()) {
                rows.add(row.group(1));
                answers.add(row.group(2));
                source.append("answers.add(").append(row.group(1)).append(");\n");
            } else {
                boolean isCall = line.startsWith("x.");
                Check.due("README.md tells the answer of " + line, false, () -> isCall);
                source.append(line).append("\n");
            }
        }
        return source.append("return answers;\n}\n}\n").toString();
    }

    private static List<?> run(String source) throws Exception {
        Path place = Files.createTempDirectory("readme");
        try {
            Path file = place.resolve("Example.java");
            Files.writeString(file, source, StandardCharsets.UTF_8);
            JavaCompiler javac = ToolProvider.getSystemJavaCompiler();
            int code = javac.run(null, null, null, "-cp", System.getProperty("java.class.path"), "-d",
                place.toString(), file.toString());
            Check.due("an example compiles", 0, () -> code);
            if (code != 0) {
                return List.of();
            }
            try (URLClassLoader loader = new URLClassLoader(new URL[] {place.toUri().toURL()})) {
                return (List<?>) loader.loadClass("Example").getMethod("answers").invoke(null);
            }
        } finally {
            remove(place);
        }
    }

    private static void remove(Path place) throws IOException {
        try (Stream<Path> all = Files.walk(place)) {
            for (Path path : (Iterable<Path>) all.sorted(Comparator.reverseOrder())::iterator) {
                Files.delete(path);
            }
        }
    }

    private static void calls(String readme) {
        for (Method m : CacheDiary.class.getDeclaredMethods()) {
            if (Modifier.isPublic(m.getModifiers())) {
                Check.due("README.md names " + m.getName(), true, () -> readme.contains("`" + m.getName() + "`"));
            }
        }
    }

    private static void tests(String readme, Path directory) throws IOException {
        TreeSet<String> listed = new TreeSet<>();
        Matcher test = TEST.matcher(readme);
        while (test.find()) {
            listed.add(test.group(1));
        }
        TreeSet<String> there = new TreeSet<>();
        try (Stream<Path> files = Files.list(directory)) {
            files.map(file -> file.getFileName().toString())
                .filter(name -> name.endsWith("Test.java"))
                .forEach(name -> there.add(name.substring(0, name.length() - ".java".length())));
        }
        Check.due("the tests that README.md lists", there, () -> listed);
    }
}
