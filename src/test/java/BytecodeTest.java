import java.io.File;
import java.io.PrintWriter;
import java.io.StringWriter;
import java.lang.reflect.Field;
import java.lang.reflect.Modifier;
import java.nio.file.Path;
import java.util.ArrayList;
import java.util.LinkedHashMap;
import java.util.List;
import java.util.Map;
import java.util.Set;
import java.util.TreeSet;
import java.util.regex.Matcher;
import java.util.regex.Pattern;
import java.util.spi.ToolProvider;

/**
 * Rules of LANGUAGE.md that the compiled class tells, as javap prints it: how deep calls go,
 * which functions of the library they reach, and where objects are made.
 */
public final class BytecodeTest {
    private static final int DEEPEST = 8;
    private static final int MOST_FIELDS = 20;
    private static final Pattern METHOD = Pattern.compile("  (?:\\S.* )?([\\w$]+)\\(.*\\).*;|  static \\{\\};");
    private static final Pattern CALL = Pattern.compile("// (?:Interface)?Method (\\S+?):.*");
    private static final Pattern MAKING = Pattern.compile("\\s+\\d+: (new|newarray|anewarray|multianewarray) .*");
    private static final Set<String> LIBRARY = Set.of("java/lang/Object.<init>", "java/lang/Enum.<init>",
            "java/lang/Enum.valueOf", "TradeLogs$Command.ordinal",
            "java/lang/IllegalArgumentException.<init>",
            "java/lang/IllegalStateException.<init>", "java/lang/IndexOutOfBoundsException.<init>",
            "java/lang/Math.max", "java/lang/Math.min", "java/lang/String.charAt",
            "java/lang/String.length", "java/lang/System.arraycopy");
    // A new object, the exception of a call, and what an enum makes by itself.
    private static final Pattern MAKER = Pattern.compile(
            ".*<(cl)?init>|TradeLogs\\.refuse|TradeLogs\\$Command\\.\\$?values");

    // Each method with those that it calls, both with their classes.
    private static final Map<String, Set<String>> CALLS = new LinkedHashMap<>();
    private static final Set<String> MAKERS = new TreeSet<>();

    public static void main(String[] arguments) throws Exception {
        Path folder = Path.of(TradeLogs.class.getProtectionDomain().getCodeSource().getLocation().toURI());
        for (File file : folder.toFile().listFiles()) {
            String name = file.getName().replaceFirst("\\.class$", "");
            if (name.equals("TradeLogs") || name.startsWith("TradeLogs$")) {
                read(name, printed(file));
                fields(Class.forName(name));
            }
        }
        Script.check("methods were found", CALLS.size() > 100, true);
        depths();
        library();
        MAKERS.removeIf(name -> MAKER.matcher(name).matches());
        Script.check("12: calls that make an object", MAKERS, List.of());
        Script.end();
    }

    private static String printed(File file) {
        StringWriter text = new StringWriter();
        PrintWriter out = new PrintWriter(text, true);
        ToolProvider.findFirst("javap").orElseThrow().run(out, out, "-c", "-p", file.getPath());
        return text.toString();
    }

    private static void read(String owner, String text) {
        String method = "";
        for (String line : text.split("\\R")) {
            Matcher head = METHOD.matcher(line);
            Matcher call = CALL.matcher(line);
            if (head.matches()) {
                method = owner + "." + nameIn(head.group(1), owner);
                CALLS.putIfAbsent(method, new TreeSet<>());
            } else if (call.find()) {
                String called = call.group(1).replace("\"", "");
                CALLS.get(method).add(called.contains(".") ? called : owner + "." + called);
            }
            if (MAKING.matcher(line).matches()) {
                MAKERS.add(method);
            }
        }
    }

    private static String nameIn(String printed, String owner) {
        if (printed == null) {
            return "<clinit>";
        }
        return printed.equals(owner) ? "<init>" : printed;
    }

    private static void fields(Class<?> kind) {
        int count = 0;
        for (Field field : kind.getDeclaredFields()) {
            count += Modifier.isStatic(field.getModifiers()) ? 0 : 1;
        }
        Script.check("11: fields of " + kind.getName(), count <= MOST_FIELDS, true);
    }

    private static void depths() {
        for (String method : CALLS.keySet()) {
            List<String> longest = longestFrom(method, new ArrayList<>());
            boolean fine = longest.size() <= DEEPEST;
            Script.check("11: at most eight deep", fine ? "fine" : String.join(" > ", longest), "fine");
        }
    }

    /** The longest chain of calls that goes on from the open ones into a method. */
    private static List<String> longestFrom(String method, List<String> open) {
        List<String> chain = new ArrayList<>(open);
        chain.add(method);
        // One call more than is fine tells enough, also of a recursion: the class needs none.
        if (chain.size() > DEEPEST) {
            return chain;
        }
        List<String> longest = chain;
        for (String called : CALLS.getOrDefault(method, Set.of())) {
            List<String> next = longestFrom(called, chain);
            longest = next.size() > longest.size() ? next : longest;
        }
        return longest;
    }

    private static void library() {
        Set<String> others = new TreeSet<>();
        CALLS.values().forEach(others::addAll);
        others.removeIf(name -> CALLS.containsKey(name) || LIBRARY.contains(name)
                || name.startsWith("[LTradeLogs$") && name.endsWith(".clone"));
        Script.check("4: other functions of the library", others, List.of());
    }
}
