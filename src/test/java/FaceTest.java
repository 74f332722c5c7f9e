import java.lang.reflect.Constructor;
import java.lang.reflect.Field;
import java.lang.reflect.Method;
import java.lang.reflect.Modifier;
import java.util.ArrayList;
import java.util.Arrays;
import java.util.List;

/** The public face: what the class shows, and that it shows nothing else. */
public final class FaceTest {
    private static final String METHODS = """
            addTrade(int, int, int) int IllegalArgumentException IllegalStateException
            addMentor(int, int) int IllegalArgumentException IllegalStateException
            addApprentice(int, int) int IndexOutOfBoundsException IllegalStateException
            release(int, int) int IndexOutOfBoundsException IllegalArgumentException IllegalStateException
            log(int, int, int) int IndexOutOfBoundsException IllegalArgumentException IllegalStateException
            confirm(int, int) int IndexOutOfBoundsException IllegalArgumentException IllegalStateException
            doubt(int) int IndexOutOfBoundsException IllegalStateException
            settle(int, boolean) int IndexOutOfBoundsException IllegalStateException
            credit(int, int, int) int IndexOutOfBoundsException IllegalArgumentException IllegalStateException
            endDay() int IllegalStateException
            move(int, int) int IndexOutOfBoundsException IllegalStateException
            leave(int) int IndexOutOfBoundsException IllegalStateException
            exchange(int, int) int IndexOutOfBoundsException IllegalArgumentException IllegalStateException
            reason(int, int) int IndexOutOfBoundsException
            mentor(int, int) int IndexOutOfBoundsException IllegalArgumentException
            apprentice(int, int) int IndexOutOfBoundsException IllegalArgumentException
            part(int, int, int) int IndexOutOfBoundsException IllegalArgumentException
            entry(int, boolean, int, int) int IndexOutOfBoundsException IllegalArgumentException
            whole(int) int IllegalArgumentException
            completeOn(int, int) int IndexOutOfBoundsException IllegalArgumentException
            bestMentor(int) int IndexOutOfBoundsException
            doubtsBy(int, int) int IndexOutOfBoundsException
            nextRelease(int, int) int IndexOutOfBoundsException IllegalArgumentException
            type(int) int IllegalArgumentException IllegalStateException
            clearCommands() int
            runCommands() int
            undo() int IllegalStateException
            digest() long
            """;

    public static void main(String[] arguments) {
        Script.check("the class", Modifier.toString(TradeLogs.class.getModifiers()), "public final");
        Script.check("the methods", shownMethods(), sorted(METHODS.split("\n")));
        Script.check("the constants", shownFields(), List.of("public static final int NONE"));
        Script.check("the constructors", shownConstructors(), List.of("public TradeLogs()"));
        Script.check("no private method bears the name of a public one", twiceNamed(), List.of());
        Script.end();
    }

    private static List<String> sorted(String[] texts) {
        String[] copy = texts.clone();
        Arrays.sort(copy);
        return List.of(copy);
    }

    private static List<String> shownMethods() {
        List<String> shown = new ArrayList<>();
        for (Method method : TradeLogs.class.getDeclaredMethods()) {
            if (!Modifier.isPrivate(method.getModifiers()) && !method.isSynthetic()) {
                shown.add(described(method));
            }
        }
        return sorted(shown.toArray(new String[0]));
    }

    private static String described(Method method) {
        List<String> kinds = new ArrayList<>();
        for (Class<?> kind : method.getParameterTypes()) {
            kinds.add(kind.getSimpleName());
        }
        StringBuilder text = new StringBuilder(method.getName());
        text.append('(').append(String.join(", ", kinds)).append(") ");
        text.append(method.getReturnType().getSimpleName());
        for (Class<?> kind : method.getExceptionTypes()) {
            text.append(' ').append(kind.getSimpleName());
        }
        return text.toString();
    }

    private static List<String> shownFields() {
        List<String> shown = new ArrayList<>();
        for (Field field : TradeLogs.class.getDeclaredFields()) {
            if (!Modifier.isPrivate(field.getModifiers()) && !field.isSynthetic()) {
                shown.add(Modifier.toString(field.getModifiers()) + " "
                        + field.getType().getSimpleName() + " " + field.getName());
            }
        }
        return shown;
    }

    private static List<String> shownConstructors() {
        List<String> shown = new ArrayList<>();
        for (Constructor<?> constructor : TradeLogs.class.getDeclaredConstructors()) {
            shown.add(constructor.toString());
        }
        return shown;
    }

    private static List<String> twiceNamed() {
        List<String> names = new ArrayList<>();
        for (String line : METHODS.split("\n")) {
            names.add(line.substring(0, line.indexOf('(')));
        }
        List<String> found = new ArrayList<>();
        List<Class<?>> kinds = new ArrayList<>(List.of(TradeLogs.class.getDeclaredClasses()));
        kinds.add(TradeLogs.class);
        for (Class<?> kind : kinds) {
            for (Method method : kind.getDeclaredMethods()) {
                boolean own = kind != TradeLogs.class || Modifier.isPrivate(method.getModifiers());
                if (own && names.contains(method.getName())) {
                    found.add(kind.getSimpleName() + "." + method.getName());
                }
            }
        }
        return found;
    }
}
