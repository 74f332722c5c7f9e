import java.io.IOException;
import java.lang.reflect.Method;
import java.net.URL;
import java.net.URLClassLoader;
import java.nio.file.Files;
import java.nio.file.Path;
import java.util.ArrayList;
import java.util.List;
import java.util.regex.MatchResult;
import java.util.regex.Matcher;
import java.util.regex.Pattern;
import javax.tools.JavaCompiler;
import javax.tools.ToolProvider;

/** README.md: its example answers what it says, and its tables have the document's face. */
public final class ReadmeTest {
    private static final Path README = Path.of("README.md");
    private static final Path DOCUMENT = Path.of("../shared/DOC.md");
    private static final Pattern BLOCK = Pattern.compile("(?s)```java\n(.*?)```");
    // A call, perhaps kept in a variable, and the number that it answers.
    private static final Pattern ANSWERED = Pattern.compile("\\s*(int \\w+ = )?(logs\\..*);\\s*// (-?\\d+)\\b.*");
    private static final Pattern METHOD = Pattern.compile("public (?:int|long) (\\w+)\\((.*?)\\)(.*);");
    private static final Pattern ROW = Pattern.compile("(?m)^\\| `(\\w+\\(.*?\\))` \\|(.*)\\|(.*)\\|(.*)\\|$");

    public static void main(String[] arguments) throws Exception {
        String readme = Files.readString(README);
        String document = Files.readString(DOCUMENT);
        Script.check("README: calls and exceptions of the tables", rowsOf(readme), facesOf(document));
        example(firstBlock(readme));
        Script.end();
    }

    private static String firstBlock(String text) {
        Matcher found = BLOCK.matcher(text);
        return found.find() ? found.group(1) : "";
    }

    // ---- the tables

    /** Each call with the names of its arguments and the short names of its exceptions. */
    private static List<String> rowsOf(String readme) {
        List<String> rows = new ArrayList<>();
        for (MatchResult row : ROW.matcher(readme).results().toList()) {
            rows.add(row.group(1) + " " + shortNames(row.group(4)));
        }
        return rows.stream().sorted().toList();
    }

    private static List<String> facesOf(String document) {
        List<String> faces = new ArrayList<>();
        for (MatchResult method : METHOD.matcher(firstBlock(document)).results().toList()) {
            String names = method.group(2).replaceAll("\\b(int|boolean) ", "");
            faces.add(method.group(1) + "(" + names + ") " + shortNames(method.group(3)));
        }
        return faces.stream().sorted().toList();
    }

    private static List<String> shortNames(String exceptions) {
        return Pattern.compile("Index|Argument|State").matcher(exceptions).results()
                .map(MatchResult::group).toList();
    }

    // ---- the example

    private static void example(String block) throws Exception {
        List<String> due = new ArrayList<>();
        StringBuilder source = new StringBuilder("public final class Example {\n"
                + "public static void run(java.util.List<String> answers) {\n");
        for (String line : block.split("\n")) {
            Matcher found = ANSWERED.matcher(line);
            if (found.matches()) {
                due.add(line.trim() + " answers " + found.group(3));
                source.append(recording(found, line.trim()));
            } else {
                source.append(line).append('\n');
            }
        }
        List<String> answers = answersOf(source.append("}\n}\n").toString());
        Script.check("README: the example has answers", due.size() > 10, true);
        Script.check("README: how many answers of the example are reached", answers.size(), due.size());
        for (int index = 0; index < Math.min(due.size(), answers.size()); index++) {
            Script.check("README: the example", answers.get(index), due.get(index));
        }
    }

    private static String recording(Matcher found, String line) {
        String kept = found.group(1);
        String value = kept == null ? found.group(2) : kept.split(" ")[1];
        String statement = kept == null ? "" : kept + found.group(2) + ";\n";
        String quoted = line.replace("\\", "\\\\").replace("\"", "\\\"");
        return statement + "answers.add(\"" + quoted + " answers \" + " + value + ");\n";
    }

    /** Compiles the example beside the class, and runs it. */
    private static List<String> answersOf(String source) throws Exception {
        Path folder = Files.createTempDirectory("readme");
        try {
            Path file = Files.writeString(folder.resolve("Example.java"), source);
            JavaCompiler compiler = ToolProvider.getSystemJavaCompiler();
            int failed = compiler.run(null, null, null, "-d", folder.toString(),
                    "-cp", System.getProperty("java.class.path"), file.toString());
            Script.check("README: the example compiles", failed, 0);
            return failed == 0 ? run(folder) : List.of();
        } finally {
            remove(folder);
        }
    }

    private static List<String> run(Path folder) throws Exception {
        List<String> answers = new ArrayList<>();
        try (URLClassLoader loader = new URLClassLoader(new URL[] {folder.toUri().toURL()})) {
            Method example = loader.loadClass("Example").getMethod("run", List.class);
            example.invoke(null, answers);
        }
        return answers;
    }

    private static void remove(Path folder) throws IOException {
        for (String name : new String[] {"Example.java", "Example.class", ""}) {
            Files.deleteIfExists(folder.resolve(name));
        }
    }
}
