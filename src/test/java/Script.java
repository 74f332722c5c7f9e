import java.lang.reflect.InvocationTargetException;
import java.lang.reflect.Method;
import java.util.IdentityHashMap;
import java.util.Map;
import java.util.Set;

/**
 * Runs texts of calls on new objects, a call on each line, with the answer that is due:
 *
 *   addTrade(1, 2, 3) = 0
 *   addTrade(0, 0, 2001) throws IllegalArgumentException
 *   text "days 1;" = 7
 *   300 times runCommands() = 1
 *
 * The third line is short for clearCommands() and a type(..) for each byte. A line may
 * end with a comment behind "//". Of each call that throws, and of each that only asks,
 * it is looked at too that the digest is the same behind it as before.
 */
final class Script {
    // The document promises nothing of later calls of an object.
    private static final int MOST_CALLS = 512;
    private static final Set<String> QUESTIONS = Set.of("reason", "mentor", "apprentice", "part",
            "entry", "whole", "completeOn", "bestMentor", "doubtsBy", "nextRelease", "digest");
    private static final Map<TradeLogs, Integer> CALLS = new IdentityHashMap<>();

    private static int right = 0;
    private static int wrong = 0;

    private Script() {
    }

    /** Runs a text on a new object, which it answers for more calls. */
    static TradeLogs run(String title, String text) {
        TradeLogs object = new TradeLogs();
        more(object, title, text);
        return object;
    }

    static void more(TradeLogs object, String title, String text) {
        for (String line : text.split("\n")) {
            String call = withoutComment(line);
            if (!call.isEmpty()) {
                runLine(object, title, call);
            }
        }
        boolean promised = CALLS.getOrDefault(object, 0) <= MOST_CALLS;
        check(title + ": no more calls than the document promises", promised, true);
    }

    /** Runs those lines of a text that change something, and looks at no answer. */
    static TradeLogs runChanges(String text) {
        TradeLogs object = new TradeLogs();
        for (String line : text.split("\n")) {
            String call = withoutComment(line);
            if (call.startsWith("text ")) {
                typed(object, bytesOf(call));
            } else if (!call.isEmpty() && !call.contains(" throws ") && !isQuestion(call)) {
                for (int times = timesOf(call); times > 0; times--) {
                    answer(object, callOf(call));
                }
            }
        }
        return object;
    }

    private static void runLine(TradeLogs object, String title, String line) {
        String what = title + ": " + line;
        String due = dueOf(line);
        if (line.startsWith("text ")) {
            check(what, typed(object, bytesOf(line)), due);
            return;
        }
        if (timesOf(line) > 1) {
            for (int times = timesOf(line); times > 0; times--) {
                check(what, answer(object, callOf(line)), due);
            }
            return;
        }
        long before = digestOf(object);
        String got = answer(object, callOf(line));
        check(what, got, due);
        if (got.startsWith("throws.") || isQuestion(line)) {
            check(what + " changes nothing", digestOf(object), before);
        }
    }

    // ---- the parts of a line

    static String withoutComment(String line) {
        int comment = line.indexOf("//");
        return (comment < 0 ? line : line.substring(0, comment)).trim();
    }

    private static String bytesOf(String line) {
        return line.substring(line.indexOf('"') + 1, line.lastIndexOf('"'));
    }

    private static int timesOf(String line) {
        int end = line.indexOf(" times ");
        return end < 0 ? 1 : Integer.parseInt(line.substring(0, end));
    }

    static String callOf(String line) {
        int start = line.indexOf(" times ");
        return line.substring(start < 0 ? 0 : start + 7, line.indexOf(')') + 1);
    }

    private static String dueOf(String line) {
        int end = line.startsWith("text ") ? line.lastIndexOf('"') : line.indexOf(')');
        return line.substring(end + 1).trim().replaceFirst("^=\\s*", "")
                .replaceFirst("^throws\\s+", "throws.");
    }

    static boolean isQuestion(String line) {
        return QUESTIONS.contains(line.substring(0, line.indexOf('(')));
    }

    // ---- calls

    private static void count(TradeLogs object) {
        CALLS.merge(object, 1, Integer::sum);
    }

    static long digestOf(TradeLogs object) {
        count(object);
        return object.digest();
    }

    /** Types a text into the emptied command text; answers its length. */
    static long typed(TradeLogs object, String text) {
        count(object);
        object.clearCommands();
        long length = 0;
        for (int index = 0; index < text.length(); index++) {
            count(object);
            length = object.type(text.charAt(index));
        }
        return length;
    }

    /** What a call answers, or throws. and the simple name of the exception. */
    static String answer(TradeLogs object, String call) {
        int open = call.indexOf('(');
        String inside = call.substring(open + 1, call.length() - 1).trim();
        String[] texts = inside.isEmpty() ? new String[0] : inside.split("\\s*,\\s*");
        Method method = methodOf(call.substring(0, open), texts.length);
        Object[] arguments = new Object[texts.length];
        for (int index = 0; index < texts.length; index++) {
            boolean truth = method.getParameterTypes()[index] == boolean.class;
            arguments[index] = truth ? (Object) Boolean.valueOf(texts[index])
                    : (Object) Integer.valueOf(texts[index]);
        }
        count(object);
        try {
            return String.valueOf(method.invoke(object, arguments));
        } catch (InvocationTargetException thrown) {
            return "throws." + thrown.getCause().getClass().getSimpleName();
        } catch (IllegalAccessException impossible) {
            throw new AssertionError(impossible);
        }
    }

    private static Method methodOf(String name, int arguments) {
        for (Method method : TradeLogs.class.getMethods()) {
            if (method.getName().equals(name) && method.getParameterCount() == arguments) {
                return method;
            }
        }
        throw new AssertionError("no method " + name + " with " + arguments + " arguments");
    }

    static void check(String what, Object got, Object due) {
        if (String.valueOf(got).equals(String.valueOf(due))) {
            right++;
        } else {
            wrong++;
            System.out.println(what + ": answered " + got + ", due is " + due);
        }
    }

    /** Ends the test: with exit code 1 if an answer was wrong. */
    static void end() {
        System.out.println(right + " answers are as due, " + wrong + " are not");
        if (wrong != 0) {
            System.exit(1);
        }
    }
}
