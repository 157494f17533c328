import java.io.IOException;
import java.io.StringWriter;
import java.lang.reflect.Method;
import java.lang.reflect.Modifier;
import java.net.URL;
import java.net.URLClassLoader;
import java.nio.file.Files;
import java.nio.file.Path;
import java.util.ArrayList;
import java.util.List;
import java.util.regex.Matcher;
import java.util.regex.Pattern;
import java.util.stream.Stream;

/** README.md: each of its examples compiles and answers what it says behind "// ->", and every call is told. */
public final class ReadmeTest {
    private static final Check CHECK = new Check("ReadmeTest");
    private static final Pattern ANSWERED = Pattern.compile("(\\w+ \\w+ = )?(.+);\\s+// -> (\\S+).*");

    public static void main(String[] args) throws Exception {
        String text = Files.readString(Path.of("README.md"));
        for (Method method : LifeRents.class.getDeclaredMethods()) {
            if (Modifier.isPublic(method.getModifiers())) {
                CHECK.due("a row of " + method.getName(), rowOf(method, text), true);
            }
        }
        List<List<String>> examples = examples(text);
        CHECK.due("examples", examples.size(), 2);
        for (int i = 0; i < examples.size(); i++) {
            run("Example" + i, examples.get(i));
        }
        CHECK.close();
    }

    /** Called by the examples. */
    public static void due(String line, long got, long want) {
        CHECK.due(line, got, want);
    }

    public static void due(String line, boolean got, boolean want) {
        CHECK.due(line, got, want);
    }

    private static boolean rowOf(Method method, String text) {
        String blanks = ", \\w+".repeat(method.getParameterCount() - 1);
        return Pattern.compile("(?m)^\\| `" + method.getName() + "\\(\\w+" + blanks + "\\)` \\|").matcher(text).find();
    }

    private static List<List<String>> examples(String text) {
        List<List<String>> examples = new ArrayList<>();
        boolean inside = false;
        for (String line : text.split("\n")) {
            if (line.startsWith("```")) {
                inside = line.equals("```java");
                if (inside) {
                    examples.add(new ArrayList<>());
                }
            } else if (inside) {
                examples.get(examples.size() - 1).add(line);
            }
        }
        return examples;
    }

    /** A line "int x = CALL; // -> V" asks x behind it; a line "CALL; // -> V" asks the call itself. */
    private static String asking(String line) {
        Matcher answered = ANSWERED.matcher(line);
        if (!answered.matches()) {
            return line;
        }
        String told = answered.group(1);
        String asked = told == null ? answered.group(2).trim() : told.trim().split(" ")[1];
        String quoted = answered.group(2).trim().replace("\\", "\\\\").replace("\"", "\\\"");
        return (told == null ? "" : line + "\n")
            + "ReadmeTest.due(\"" + quoted + "\", " + asked + ", " + answered.group(3) + ");";
    }

    private static void run(String name, List<String> lines) throws Exception {
        StringWriter source = new StringWriter();
        source.append("public final class " + name + " {\npublic static void run() {\n");
        int answers = 0;
        for (String line : lines) {
            answers += asking(line).equals(line) ? 0 : 1;
            source.append(asking(line) + "\n");
        }
        source.append("}\n}\n");
        CHECK.due(name + " tells an answer", answers > 0, true);
        Path folder = Files.createTempDirectory("readme");
        Path file = Files.writeString(folder.resolve(name + ".java"), source.toString());
        int failed = new ProcessBuilder("javac", "-d", folder.toString(),
            "-cp", System.getProperty("java.class.path"), file.toString()).inheritIO().start().waitFor();
        CHECK.due("javac of " + name, failed, 0);
        if (failed == 0) {
            try (URLClassLoader loader = new URLClassLoader(new URL[] {folder.toUri().toURL()})) {
                int before = CHECK.asked();
                loader.loadClass(name).getMethod("run").invoke(null);
                CHECK.due(name + " asked", CHECK.asked() - before, answers);
            }
        }
        remove(folder);
    }

    private static void remove(Path folder) throws IOException {
        List<Path> files;
        try (Stream<Path> found = Files.list(folder)) {
            files = found.toList();
        }
        for (Path file : files) {
            Files.delete(file);
        }
        Files.delete(folder);
    }
}
