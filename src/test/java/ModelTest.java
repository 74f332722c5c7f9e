import java.lang.reflect.InvocationTargetException;
import java.lang.reflect.Method;
import java.util.ArrayList;
import java.util.List;
import java.util.Random;
import java.util.Set;

/** Long runs of calls that a fixed seed picks: the class has to answer as the model does. */
public final class ModelTest {
    private static final int RUNS = 1500;
    private static final int CALLS = 512;
    private static final Set<String> UNDOABLE = Set.of("addTrade", "addMentor", "addApprentice",
            "release", "log", "confirm", "doubt", "settle", "credit", "endDay", "move", "leave",
            "exchange", "runCommands");
    private static final int[] EDGES = {-2147483648, -2, -1, 0, 1, 2, 3, 4, 5, 6, 7, 9, 10, 11,
        12, 13, 14, 19, 20, 31, 32, 99, 100, 127, 128, 199, 200, 2000, 2001, 9999, 10000,
        2147483640, 2147483646, 2147483647};
    private static final String[] WORDS = {"trade", "mentor", "pupil", "log", "confirm", "doubt",
        "accept", "refuse", "move", "swap", "free", "days"};
    private static final int[] NUMBERS = {3, 2, 2, 3, 1, 1, 1, 1, 2, 2, 2, 1};

    private final Random random;
    private final String run;
    private final TradeLogs logs = new TradeLogs();
    private final Model model = new Model();
    private final List<String> calls = new ArrayList<>();
    private boolean same = true;
    // The day from which on release days are put.
    private int firstFree;

    private ModelTest(int seed) {
        random = new Random(seed);
        run = "run " + seed;
    }

    public static void main(String[] arguments) {
        for (int seed = 0; seed < RUNS; seed++) {
            new ModelTest(seed).go();
        }
        Script.end();
    }

    private void go() {
        boolean texts = random.nextInt(3) == 0;
        switch (random.nextInt(12)) {
            case 0 -> passToTheEndOfReleases();
            case 1 -> passToTheLastDays();
            default -> { }
        }
        if (random.nextInt(4) > 0) {
            begin();
        }
        while (calls.size() < CALLS && same) {
            if (texts && random.nextInt(6) == 0) {
                typeText();
            } else {
                anyCall();
            }
            if (random.nextInt(4) == 0) {
                call("digest");
            }
        }
    }

    private void passToTheEndOfReleases() {
        type("days 30;".repeat(6));
        call("runCommands");
        firstFree = 175;
    }

    private void passToTheLastDays() {
        type("days 30;".repeat(18));
        for (int run = 0; run < 18; run++) {
            call("runCommands");
        }
        call("clearCommands");
        type("days 30;".repeat(9));
        call("runCommands");
    }

    /** A start in which most calls have something to do. */
    private void begin() {
        for (int trade = 0; trade < 2; trade++) {
            call("addTrade", random.nextInt(30), random.nextInt(30), random.nextInt(30));
        }
        for (int mentor = 0; mentor < 4; mentor++) {
            call("addMentor", 1 + random.nextInt(5), 1 + random.nextInt(31));
        }
        for (int apprentice = 0; apprentice < 6; apprentice++) {
            call("addApprentice", random.nextInt(2), random.nextInt(5) - 1);
        }
        if (random.nextInt(4) == 0) {
            call("credit", below(6), below(3), 2147483647 - random.nextInt(20));
            call("credit", below(6), below(3), 2147483647 - random.nextInt(20));
        }
    }

    private int edge() {
        return EDGES[random.nextInt(EDGES.length)];
    }

    /** Mostly a number below the bound, now and then another one. */
    private int below(int bound) {
        return random.nextInt(40) == 0 ? edge() : random.nextInt(bound);
    }

    private void anyCall() {
        int dice = random.nextInt(100);
        // Many calls log work, for what is logged keeps the others busy.
        if (dice < 30) {
            call("log", below(7), below(3), 1 + below(7));
        } else if (dice < 40) {
            call("endDay");
        } else if (dice < 70) {
            change();
        } else if (dice < 73) {
            call("undo");
        } else {
            ask();
        }
    }

    private void change() {
        switch (random.nextInt(14)) {
            case 0 -> call("addTrade", below(40), below(40), below(40));
            case 1 -> call("addMentor", 1 + below(6), below(32));
            case 2 -> call("addApprentice", below(3), below(5) - 1);
            case 3, 4 -> call("release", below(7), releaseDay());
            case 5 -> call("confirm", below(5), random.nextInt(3) == 0 ? 99 : 1 + below(6));
            case 6, 7 -> call("doubt", below(7));
            case 8 -> call("settle", below(7), random.nextBoolean());
            case 9 -> call("credit", below(7), below(3), below(20) - 5);
            case 10, 11 -> call("move", below(7), below(5));
            case 12 -> call("leave", below(7));
            default -> call("exchange", below(7), below(7));
        }
    }

    private int releaseDay() {
        return random.nextInt(3) == 0 ? below(200) : firstFree + below(40);
    }

    private void ask() {
        switch (random.nextInt(12)) {
            case 0 -> call("reason", below(7), below(5));
            case 1 -> call("mentor", below(5), below(5));
            case 2 -> call("apprentice", below(7), below(12));
            case 3 -> call("part", below(7), below(3), below(5));
            case 4, 5 -> call("entry", below(7), random.nextBoolean(), below(12), below(4));
            case 6 -> call("whole", below(10));
            case 7, 8 -> call("completeOn", below(7), 1 + below(12));
            case 9 -> call("bestMentor", below(7));
            case 10 -> call("doubtsBy", below(7), below(7));
            default -> call("nextRelease", below(7), firstFree + below(60));
        }
    }

    private void typeText() {
        call("clearCommands");
        String text = random.nextInt(2) == 0 ? text(1 + random.nextInt(4)) : text(1);
        if (random.nextInt(3) == 0 && !text.isEmpty()) {
            text = spoilt(text);
        }
        type(text);
        call("runCommands");
        if (random.nextInt(4) == 0) {
            call("runCommands");
        }
    }

    private void type(String text) {
        for (int index = 0; index < text.length() && calls.size() < CALLS - 2; index++) {
            call("type", (int) text.charAt(index));
        }
    }

    private String spaces(int least) {
        return " ".repeat(least + (random.nextInt(6) == 0 ? random.nextInt(3) : 0));
    }

    private String text(int commands) {
        StringBuilder text = new StringBuilder();
        for (int command = 0; command < commands; command++) {
            int which = random.nextInt(WORDS.length);
            text.append(spaces(0)).append(WORDS[which]);
            for (int number = 0; number < NUMBERS[which]; number++) {
                String digits = String.valueOf(random.nextInt(20) == 0 ? 9999 : random.nextInt(5));
                text.append(spaces(1)).append(random.nextInt(9) == 0 ? "0" : "").append(digits);
            }
            text.append(spaces(0)).append(';');
        }
        return text.append(spaces(0)).toString();
    }

    private String spoilt(String text) {
        int at = random.nextInt(text.length());
        String signs = " ;0z9aA\u0000/:`{\u007f";
        char sign = signs.charAt(random.nextInt(signs.length()));
        return switch (random.nextInt(4)) {
            case 0 -> text.substring(0, at);
            case 1 -> text.substring(0, at) + text.substring(at + 1);
            case 2 -> text.substring(0, at) + sign + text.substring(at);
            default -> text.substring(0, at) + sign + text.substring(at + 1);
        };
    }

    private void call(String name, Object... arguments) {
        if (!same || calls.size() >= CALLS) {
            return;
        }
        String call = name + List.of(arguments).toString().replace('[', '(').replace(']', ')');
        calls.add(call);
        Model.World0 before = UNDOABLE.contains(name) ? model.before() : null;
        String due = answer(Model.class, model, name, arguments);
        boolean faulty = name.equals("runCommands") && due.startsWith("-");
        if (before != null && !due.startsWith("throws.") && !faulty) {
            model.save(before);
        }
        String got = answer(TradeLogs.class, logs, name, arguments);
        same = got.equals(due);
        Script.check(run + ", call " + calls.size() + ": " + call, got, due);
        if (!same) {
            System.out.println(String.join(" ", calls));
        }
    }

    private static String answer(Class<?> kind, Object object, String name, Object[] arguments) {
        try {
            for (Method method : kind.getDeclaredMethods()) {
                if (method.getName().equals(name) && method.getParameterCount() == arguments.length) {
                    return String.valueOf(method.invoke(object, arguments));
                }
            }
            throw new AssertionError(name);
        } catch (InvocationTargetException thrown) {
            return "throws." + thrown.getCause().getClass().getSimpleName();
        } catch (IllegalAccessException impossible) {
            throw new AssertionError(impossible);
        }
    }
}
