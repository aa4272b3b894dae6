import java.io.IOException;
import java.net.URL;
import java.net.URLClassLoader;
import java.nio.file.Files;
import java.nio.file.Path;
import java.util.ArrayList;
import java.util.List;
import java.util.regex.Matcher;
import java.util.regex.Pattern;
import javax.tools.ToolProvider;

/** The examples of README.md are run as one program; each must answer what stands behind its arrow. */
public final class ReadmeTest extends Checks {
    private static final Pattern ROW =
            Pattern.compile("(?:int (\\w+) = )?(net\\.(\\w+)\\(.*\\));\\s+// -> (\\S+)(?: .*)?");

    /** One call of README.md with the answer that it tells. */
    private record Example(String row, String name, int want) { }

    public static void main(String[] args) throws Exception {
        List<Example> examples = new ArrayList<>();
        StringBuilder body = new StringBuilder();
        for (String row : rowsOfCode(Files.readAllLines(Path.of("README.md")))) {
            Matcher parts = ROW.matcher(row);
            if (parts.matches()) {
                body.append(kept(parts.group(1), parts.group(2)));
                examples.add(new Example(row, parts.group(3), valueOf(parts.group(4))));
            } else {
                body.append(row).append('\n');
            }
        }
        compare(answersOf(body.toString()), examples);
        for (String name : Net.NAMES) {
            due("README.md shows " + name, examples.stream().anyMatch(one -> one.name().equals(name)), true);
        }
        end("the README's examples answer as they say");
    }

    private static String kept(String variable, String call) {
        if (variable == null) {
            return "found.add(" + call + ");\n";
        }
        return "int " + variable + " = " + call + ";\nfound.add(" + variable + ");\n";
    }

    private static void compare(List<Object> got, List<Example> examples) {
        due("answers of README.md", got.size(), examples.size());
        for (int i = 0; i < Math.min(got.size(), examples.size()); i++) {
            due("README.md: " + examples.get(i).row(), valueOf(got.get(i).toString()), examples.get(i).want());
        }
    }

    private static int valueOf(String answer) {
        switch (answer) {
            case "NONE": return NONE;
            case "true": return 1;
            case "false": return 0;
            default: return Integer.parseInt(answer);
        }
    }

    private static List<String> rowsOfCode(List<String> lines) {
        List<String> found = new ArrayList<>();
        boolean isInside = false;
        for (String line : lines) {
            if (line.startsWith("```")) {
                isInside = line.equals("```java");
            } else if (isInside) {
                found.add(line);
            }
        }
        return found;
    }

    private static List<Object> answersOf(String body) throws Exception {
        Path folder = Files.createTempDirectory("readme");
        Path source = folder.resolve("ReadmeExamples.java");
        try {
            Files.writeString(source, "import java.util.List;\npublic final class ReadmeExamples {\n"
                    + "public static void addTo(List<Object> found) {\n" + body + "}\n}\n");
            int fault = ToolProvider.getSystemJavaCompiler().run(null, null, null,
                    "-cp", System.getProperty("java.class.path"), "-d", folder.toString(), source.toString());
            due("README.md compiles", fault, 0);
            return fault == 0 ? answersOfClass(folder) : List.of();
        } finally {
            remove(folder);
        }
    }

    private static List<Object> answersOfClass(Path folder) throws Exception {
        List<Object> found = new ArrayList<>();
        try (URLClassLoader loader = new URLClassLoader(new URL[] {folder.toUri().toURL()})) {
            loader.loadClass("ReadmeExamples").getMethod("addTo", List.class).invoke(null, found);
        }
        return found;
    }

    private static void remove(Path folder) throws IOException {
        Files.deleteIfExists(folder.resolve("ReadmeExamples.java"));
        Files.deleteIfExists(folder.resolve("ReadmeExamples.class"));
        Files.delete(folder);
    }
}
