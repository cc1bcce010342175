import java.io.File;
import java.io.IOException;
import java.lang.reflect.Method;
import java.lang.reflect.Modifier;
import java.nio.charset.StandardCharsets;
import java.nio.file.Files;
import java.nio.file.Path;
import java.util.ArrayList;
import java.util.List;
import java.util.regex.Matcher;
import java.util.regex.Pattern;

/**
 * The examples of README.md compile as they stand there, and each of their calls has the answer that
 * is told behind it; and README.md names all methods of the face, with their arguments.
 */
public final class ReadmeTest {
    private static final String NAME = "ReadmeExamples";
    /** A call, and the answer that is told behind it. */
    private static final Pattern CALL =
            Pattern.compile("(\\w+\\.\\w+\\(.*\\)); +// (-?\\d+|throws \\w+)(: .+)?");

    private ReadmeTest() {
    }

    public static void main(String[] args) throws IOException, InterruptedException {
        List<String> rows = Files.readAllLines(Path.of("README.md"), StandardCharsets.US_ASCII);
        checkMethods(String.join("\n", rows));
        List<List<String>> examples = examplesIn(rows);
        Checks.same("there are examples", "" + !examples.isEmpty(), "true");
        Path folder = Files.createTempDirectory("readme");
        try {
            play(examples, folder);
        } finally {
            remove(folder);
        }
        Checks.end();
    }

    private static void checkMethods(String text) {
        for (Method method : NecklaceSisters.class.getDeclaredMethods()) {
            if (Modifier.isPublic(method.getModifiers())) {
                int count = method.getParameterCount();
                String inside = count == 0 ? "" : "[a-z]+" + ", [a-z]+".repeat(count - 1);
                Pattern named = Pattern.compile("`" + method.getName() + "\\(" + inside + "\\)`");
                Checks.same("README.md names " + method.getName(), "" + named.matcher(text).find(), "true");
            }
        }
    }

    private static List<List<String>> examplesIn(List<String> rows) {
        List<List<String>> examples = new ArrayList<>();
        boolean inside = false;
        for (String row : rows) {
            if (row.startsWith("```")) {
                inside = row.equals("```java");
                if (inside) {
                    examples.add(new ArrayList<>());
                }
            } else if (inside) {
                examples.get(examples.size() - 1).add(row);
            }
        }
        return examples;
    }

    /** In a machine of its own, as the examples are compiled only now. */
    private static void play(List<List<String>> examples, Path folder)
            throws IOException, InterruptedException {
        Path source = folder.resolve(NAME + ".java");
        Files.writeString(source, programOf(examples));
        String classes = System.getProperty("java.class.path");
        Checks.same("the examples of README.md compile", run("javac", "-cp", classes,
                "-d", folder.toString(), source.toString()), "0");
        Checks.same("the examples of README.md have the answers told there", run("java", "-cp",
                classes + File.pathSeparator + folder, NAME), "0");
    }

    private static String run(String... words) throws IOException, InterruptedException {
        return "" + new ProcessBuilder(words).inheritIO().start().waitFor();
    }

    private static String programOf(List<List<String>> examples) {
        StringBuilder program = new StringBuilder("final class " + NAME + " {\n"
                + "    public static void main(String[] args) {\n");
        for (List<String> example : examples) {
            program.append("        {\n");
            for (String row : example) {
                program.append("            ").append(checked(row)).append('\n');
            }
            program.append("        }\n");
        }
        return program.append("        Checks.end();\n    }\n}\n").toString();
    }

    /** The row, or what looks at the answer if one is told in it. */
    private static String checked(String row) {
        Matcher matcher = CALL.matcher(row);
        if (!matcher.matches()) {
            Checks.same("README.md: " + row + " stands without its answer",
                    "" + (row.startsWith("sisters.") || row.contains("//")), "false");
            return row;
        }
        String call = matcher.group(1);
        return "Checks.same(\"README.md: " + call.replace("\"", "\\\"") + "\", Checks.answerOf(() -> "
                + call + "), \"" + matcher.group(2).replace("throws ", "throws.") + "\");";
    }

    private static void remove(Path folder) throws IOException {
        try (var files = Files.list(folder)) {
            for (Path file : files.toList()) {
                Files.delete(file);
            }
        }
        Files.delete(folder);
    }
}
