import java.lang.reflect.InvocationTargetException;
import java.lang.reflect.Method;
import java.util.Set;

/**
 * Runs texts of calls on new objects, a call on each line, with the answer that is due:
 *
 *   addTrade(1, 2, 3) = 0
 *   addTrade(0, 0, 2001) throws IllegalArgumentException
 *   text "days 1;" = 7
 *
 * The third line is short for clearCommands() and a type(..) for each byte. A line may
 * end with a comment behind "//". Of each call that throws, and of each that only asks,
 * it is looked at too that the digest is the same behind it as before.
 */
final class Script {
    private static final Set<String> QUESTIONS = Set.of("reason", "mentor", "apprentice", "part",
            "entry", "whole", "completeOn", "bestMentor", "doubtsBy", "nextRelease", "digest");

    private static int right = 0;
    private static int wrong = 0;

    private Script() {
    }

    /** Runs a text on a new object, which it answers for more calls. */
    static TradeLogs run(String title, String text) {
        TradeLogs object = new TradeLogs();
        more(object, title, text);
        return object;
    }

    static void more(TradeLogs object, String title, String text) {
        for (String line : text.split("\n")) {
            int comment = line.indexOf("//");
            String call = (comment < 0 ? line : line.substring(0, comment)).trim();
            if (!call.isEmpty()) {
                runLine(object, title, call);
            }
        }
    }

    private static void runLine(TradeLogs object, String title, String line) {
        String what = title + ": " + line;
        if (line.startsWith("text ")) {
            int end = line.lastIndexOf('"');
            String bytes = line.substring(line.indexOf('"') + 1, end);
            check(what, typed(object, bytes), line.substring(line.indexOf('=', end) + 1).trim());
            return;
        }
        int close = line.indexOf(')');
        String due = line.substring(close + 1).trim().replaceFirst("^=\\s*", "")
                .replaceFirst("^throws\\s+", "throws.");
        long before = object.digest();
        String got = answer(object, line.substring(0, close + 1));
        check(what, got, due);
        boolean changesNothing = got.startsWith("throws.")
                || QUESTIONS.contains(line.substring(0, line.indexOf('(')));
        if (changesNothing) {
            check(what + " changes nothing", object.digest(), before);
        }
    }

    /** Types a text into the emptied command text; answers its length. */
    static long typed(TradeLogs object, String text) {
        object.clearCommands();
        long length = 0;
        for (int index = 0; index < text.length(); index++) {
            length = object.type(text.charAt(index));
        }
        return length;
    }

    /** What a call answers, or throws. and the simple name of the exception. */
    static String answer(TradeLogs object, String call) {
        int open = call.indexOf('(');
        String inside = call.substring(open + 1, call.length() - 1).trim();
        String[] texts = inside.isEmpty() ? new String[0] : inside.split("\\s*,\\s*");
        Method method = methodOf(call.substring(0, open), texts.length);
        Object[] arguments = new Object[texts.length];
        for (int index = 0; index < texts.length; index++) {
            boolean truth = method.getParameterTypes()[index] == boolean.class;
            arguments[index] = truth ? (Object) Boolean.valueOf(texts[index])
                    : (Object) Integer.valueOf(texts[index]);
        }
        try {
            return String.valueOf(method.invoke(object, arguments));
        } catch (InvocationTargetException thrown) {
            return "throws." + thrown.getCause().getClass().getSimpleName();
        } catch (IllegalAccessException impossible) {
            throw new AssertionError(impossible);
        }
    }

    private static Method methodOf(String name, int arguments) {
        for (Method method : TradeLogs.class.getMethods()) {
            if (method.getName().equals(name) && method.getParameterCount() == arguments) {
                return method;
            }
        }
        throw new AssertionError("no method " + name + " with " + arguments + " arguments");
    }

    static void check(String what, Object got, Object due) {
        if (String.valueOf(got).equals(String.valueOf(due))) {
            right++;
        } else {
            wrong++;
            System.out.println(what + ": answered " + got + ", due is " + due);
        }
    }

    /** Ends the test: with exit code 1 if an answer was wrong. */
    static void end() {
        System.out.println(right + " answers are as due, " + wrong + " are not");
        if (wrong != 0) {
            System.exit(1);
        }
    }
}
