/** Promise 28: undo. */
public final class UndoTest {
    private static final String WORLD = """
            addTrade(40, 30, 20) = 0
            addMentor(3, 1) = 0
            addMentor(3, 1) = 1
            addApprentice(0, 0) = 0
            addApprentice(0, 1) = 1
            log(0, 0, 5) = 1
            log(0, 1, 2) = 2
            log(1, 1, 2) = 1
            log(1, 1, 3) = 2
            doubt(1) = 2
            release(1, 5) = 1
            """;

    public static void main(String[] arguments) {
        depth();
        callsThatSaveNothing();
        eachUndoableCall();
        Script.end();
    }

    private static void depth() {
        Script.run("28 undo keeps the latest 4 states", """
                undo() throws IllegalStateException
                endDay() = 0
                undo() = 0
                whole(3) = 0
                undo() throws IllegalStateException
                endDay() = 0
                endDay() = 0
                endDay() = 0
                endDay() = 0
                endDay() = 0
                endDay() = 0
                undo() = 3
                whole(3) = 5
                endDay() = 0
                endDay() = 0
                undo() = 3
                undo() = 2
                undo() = 1
                undo() = 0
                whole(3) = 3
                undo() throws IllegalStateException
                """);
    }

    private static void callsThatSaveNothing() {
        Script.run("28 only undoable calls that end normally save", WORLD + """
                undo() = 3
                undo() = 2
                undo() = 1
                undo() = 0
                undo() throws IllegalStateException
                type(32) = 1
                clearCommands() = 1
                log(0, 0, 12) throws IllegalStateException
                addTrade(-1, 0, 0) throws IllegalArgumentException
                reason(0, 1) = 0
                completeOn(0, 5) = 16
                undo() throws IllegalStateException
                confirm(0, 9) = 2
                confirm(0, 9) = 0             // it changes nothing, and saves all the same
                release(0, 7) = 1
                release(0, 7) = 1
                undo() = 3
                undo() = 2
                undo() = 1
                undo() = 0
                undo() throws IllegalStateException
                """);
    }

    /** After each undoable call undo brings back the state that stood before it. */
    private static void eachUndoableCall() {
        undone("addTrade(1, 2, 3) = 1");
        undone("addMentor(2, 2) = 2");
        undone("addApprentice(0, 1) = 2");
        undone("release(0, 3) = 1");
        undone("log(1, 2, 7) = 2");
        undone("confirm(0, 99) = 2");
        undone("doubt(0) = 5");
        undone("settle(1, true) = 2");
        undone("settle(1, false) = 2");
        undone("credit(1, 2, 9) = 9");
        undone("endDay() = 0");
        undone("move(0, 1) = 2");
        undone("leave(0) = 0");
        undone("exchange(0, 1) = 3");
        undone("runCommands() = 0");
        Script.run("28 undo brings back that no work was logged", """
                addTrade(1, 1, 1) = 0
                addMentor(1, 1) = 0
                addApprentice(0, 0) = 0
                log(0, 0, 1) = 1
                release(0, 0) throws IllegalStateException
                undo() = 3
                release(0, 0) = 1
                log(0, 0, 1) throws IllegalStateException
                undo() = 3
                nextRelease(0, 0) = -1
                log(0, 0, 1) = 1
                """);
    }

    private static void undone(String call) {
        TradeLogs logs = Script.run("28 undo", WORLD);
        String before = seen(logs);
        Script.more(logs, "28 undo", call);
        if (!call.startsWith("runCommands")) {
            Script.check("28 " + call + " changes something", seen(logs).equals(before), false);
        }
        Script.more(logs, "28 undo", "undo() = 3");
        Script.check("28 undo of " + call, seen(logs), before);
    }

    /** All values that the face tells, but for the undo stack. */
    private static String seen(TradeLogs logs) {
        StringBuilder seen = new StringBuilder();
        for (int what = 0; what < 10; what++) {
            seen.append(logs.whole(what)).append(' ');
        }
        for (int mentor = 0; mentor < logs.whole(1); mentor++) {
            for (int what = 0; what < 5; what++) {
                seen.append(logs.mentor(mentor, what)).append(' ');
            }
        }
        for (int apprentice = 0; apprentice < logs.whole(2); apprentice++) {
            for (int what = 0; what < 12; what++) {
                seen.append(logs.apprentice(apprentice, what)).append(' ');
            }
            for (int index = 0; index < 15; index++) {
                seen.append(logs.part(apprentice, index / 5, index % 5)).append(' ');
            }
            for (int index = 0; index < 20; index++) {
                seen.append(logs.entry(apprentice, false, index / 4, index % 4)).append(' ');
                seen.append(logs.entry(apprentice, true, index / 4, index % 4)).append(' ');
            }
            seen.append(logs.nextRelease(apprentice, 0)).append(' ');
        }
        return seen.toString();
    }
}
