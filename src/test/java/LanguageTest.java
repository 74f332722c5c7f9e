import java.io.IOException;
import java.nio.file.Files;
import java.nio.file.Path;
import java.util.regex.Matcher;
import java.util.regex.Pattern;

/** Rules of LANGUAGE.md that the text of the class tells by itself. */
public final class LanguageTest {
    private static final Path SOURCE = Path.of("src/main/java/TradeLogs.java");
    private static final Pattern COMMENT = Pattern.compile("(?s)/\\*.*?\\*/|//[^\n]*");
    private static final Pattern STRING = Pattern.compile("\"[^\"\n]*\"");

    private static String code;

    public static void main(String[] arguments) throws IOException {
        String text = Files.readString(SOURCE);
        Script.check("signs are 10 or 32 to 126", text.chars().allMatch(c -> c == 10 || c >= 32 && c < 127), true);
        code = STRING.matcher(COMMENT.matcher(text).replaceAll("")).replaceAll("\"\"");
        none("no package line", "\\bpackage\\b");
        none("4: no import", "\\bimport\\b");
        none("2: no lambda, no method reference", "->|::");
        none("5: no static field that is not final",
                "\\bstatic\\s+(?!final\\b|class\\b|[\\w.<>\\[\\]]+\\s+\\w+\\s*\\()");
        none("5: no static initialiser", "\\bstatic\\s*\\{");
        none("6: no catch, no finally", "\\b(try|catch|finally)\\b");
        none("6: no other throw", "\\bthrow\\b(?! new (IllegalStateException|IllegalArgumentException"
                + "|IndexOutOfBoundsException)\\(\"\"\\);)");
        none("6: nothing of these", "\\b(synchronized|assert|instanceof)\\b");
        none("4: nothing of these", "Exact\\b|\\bSystem\\.(?!arraycopy)|\\bMath\\.(?!max|min)"
                + "|\\bInteger\\.|\\bLong\\.|\\bObjects?\\b|\\bString\\.");
        none("10: texts are not joined by +", "\"\"\\s*\\+|\\+\\s*\"\"");
        none("13: no clock, no randomness, no thread", "\\b(Random|Thread|nanoTime|currentTimeMillis|hashCode)\\b");
        Script.check("11: some twelve classes", count("\\b(class|enum|interface|record)\\s+\\w+") <= 12, true);
        methods();
        Script.end();
    }

    private static void none(String rule, String pattern) {
        Matcher found = Pattern.compile(pattern).matcher(code);
        Script.check(rule, found.find() ? found.group() : "none", "none");
    }

    private static int count(String pattern) {
        return (int) Pattern.compile(pattern).matcher(code).results().count();
    }

    /** Methods have at most seven parameters and some sixty lines. */
    private static void methods() {
        Matcher head = Pattern.compile("(?m)^( +)(?:\\w+ )*[\\w\\[\\]]+ (\\w+)\\(([^)]*)\\)[^;{]*\\{").matcher(code);
        int seen = 0;
        while (head.find()) {
            int end = code.indexOf("\n" + head.group(1) + "}", head.start());
            long lines = code.substring(head.start(), end).lines().count();
            Script.check("11: lines of " + head.group(2), lines <= 60, true);
            Script.check("11: parameters of " + head.group(2), head.group(3).split(",").length <= 7, true);
            seen++;
        }
        Script.check("11: methods were found", seen > 100, true);
    }
}
