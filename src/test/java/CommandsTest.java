/** Promises 25 to 27: type, clearCommands, runCommands. */
public final class CommandsTest {
    private static final String WORLD = """
            addTrade(40, 30, 20) = 0
            addMentor(3, 1) = 0
            addMentor(3, 1) = 1
            addApprentice(0, 0) = 0
            addApprentice(0, 1) = 1
            """;

    public static void main(String[] arguments) {
        types();
        clears();
        faults();
        textsWithoutFault();
        eachCommand();
        commandsThatWouldThrow();
        settlingNearTheGreatestNumber();
        daysCommand();
        runsAreUndone();
        longestText();
        Script.end();
    }

    private static void types() {
        TradeLogs logs = Script.run("25 type", """
                type(-1) throws IllegalArgumentException
                type(128) throws IllegalArgumentException
                type(2147483647) throws IllegalArgumentException
                type(0) = 1
                type(127) = 2
                whole(9) = 2
                undo() throws IllegalStateException       // it is not undoable
                """);
        for (int length = 3; length <= 150; length++) {
            Script.check("25 type: byte " + length, logs.type(32), length);
        }
        Script.more(logs, "25 type, a full text", """
                type(128) throws IllegalArgumentException
                type(32) throws IllegalStateException
                whole(9) = 150
                clearCommands() = 150
                type(32) = 1
                """);
    }

    private static void clears() {
        Script.run("26 clearCommands", """
                clearCommands() = 0
                type(32) = 1
                type(59) = 2
                clearCommands() = 2
                whole(9) = 0
                clearCommands() = 0
                runCommands() = 0
                undo() = 0
                undo() throws IllegalStateException
                """);
    }

    private static void fault(String text, int due) {
        TradeLogs logs = Script.run("27 faults", WORLD);
        Script.typed(logs, text);
        long before = logs.digest();
        Script.check("27 the fault of \"" + text + "\"", logs.runCommands(), -10 - due);
        Script.check("27 nothing is done by \"" + text + "\"", logs.digest(), before);
    }

    private static void faults() {
        fault(";", 0);
        fault(" ;", 1);
        fault("7", 0);
        fault("Days 1;", 0);
        fault("dayS 1;", 0);          // the word is "day", which is none
        fault("daysS 1;", 4);
        fault("day 1;", 0);
        fault("dayss 1;", 0);
        fault("xays 1;", 0);
        fault("daysz 1;", 0);
        fault("daysa 1;", 0);
        fault("days` 1;", 4);
        fault("days{ 1;", 4);
        fault("  dayss", 2);
        fault("d", 0);
        fault("days", 4);             // it ends too soon
        fault("days ", 5);
        fault("days 1", 6);
        fault("days 1 ", 7);
        fault("days;", 4);
        fault("days ;", 5);
        fault("days1;", 4);
        fault("days 1 2;", 7);
        fault("days 1x;", 6);
        fault("days -1;", 5);
        fault("days 1;;", 7);
        fault("days 1; x", 8);
        fault("days 1; days 2", 14);
        fault("days 1;days 1;day", 14);
        fault("days 00001;", 9);
        fault("days 10000;", 9);
        fault("days\t1;", 4);
        fault("days 1\t;", 6);
        fault("days 1;\0", 7);
        fault("move 0;", 6);
        fault("move 0 ;", 7);
        fault("move 0 1 2;", 9);
        fault("log 0 0;", 7);
        fault("log 0 0 1 1;", 10);
        fault("log 0 0 1", 9);
        fault("trade 1 2 ;", 10);
        fault("trade 1 2 3 4;", 12);
        fault("mentor 1;", 8);
        fault("mentor 1 1 1;", 11);
        fault("pupil 0;", 7);
        fault("pupil 0 0 0;", 10);
        fault("confirm 0 1;", 10);
        fault("doubt 0 1;", 8);
        fault("accept 0 1;", 9);
        fault("refuse 0 1;", 9);
        fault("swap 0;", 6);
        fault("swap 0 1 2;", 9);
        fault("free 0;", 6);
        fault("free 0 1 2;", 9);
        fault("release 0 1;", 0);
        fault("addtrade 1 1 1;", 0);
        fault("log 0 0 1; lox 0 0 1;", 11);
        fault("`", 0);
        fault("{", 0);
        fault("days /;", 5);
        fault("days :;", 5);
    }

    private static void carriedOut(String text, int due) {
        TradeLogs logs = Script.run("27 runs", WORLD);
        Script.typed(logs, text);
        Script.check("27 \"" + text + "\"", logs.runCommands(), due);
        Script.check("27 \"" + text + "\" stays", logs.whole(9), text.length());
        Script.check("27 \"" + text + "\" is undoable", logs.undo(), 3);
    }

    private static void textsWithoutFault() {
        carriedOut("", 0);
        carriedOut("    ", 0);
        carriedOut("days 1;", 1);
        carriedOut("   days    0001   ;   ", 1);
        carriedOut("days 1;days 1;days 1;", 3);
        carriedOut("days 1 ; days 02 ;", 2);
        carriedOut("log 0000 0000 0012;", 1);
        carriedOut("days 9999;", 0);      // out of its range: no fault
        carriedOut("move 9999 9999;", 0);
    }

    private static void eachCommand() {
        Script.run("27 each command", """
                text "trade 7 0 2000;mentor 2 31;mentor 1 1;pupil 0 0;pupil 0 1;log 0 2 5;log 0 1 4;" = 78
                runCommands() = 7
                part(0, 0, 0) = 7
                part(0, 1, 0) = 0
                part(0, 2, 0) = 2000
                mentor(0, 0) = 2
                mentor(0, 1) = 31
                mentor(1, 1) = 1
                apprentice(0, 1) = 0
                apprentice(1, 1) = 1
                entry(0, false, 0, 0) = 2
                entry(0, false, 0, 1) = 5
                text "doubt 0; doubt 0; accept 0; refuse 0;" = 37
                runCommands() = 4
                part(0, 2, 1) = 5
                apprentice(0, 6) = 4
                text "log 1 0 3; confirm 1; swap 0 1; free 1 9; days 3;" = 49
                runCommands() = 5
                part(1, 0, 1) = 3
                mentor(1, 4) = 1
                apprentice(0, 1) = 1
                apprentice(1, 1) = 0
                apprentice(1, 7) = 1
                nextRelease(1, 0) = 9
                whole(3) = 3
                text "move 0 0;" = 9
                runCommands() = 1
                apprentice(0, 1) = 0
                """);
        Script.run("27 confirm confirms up to 99", WORLD + """
                text "log 0 0 1; log 0 0 1; log 0 0 1; log 0 1 1; log 0 1 1; log 0 1 1; log 0 2 1; log 0 2 1; confirm 0;" = 98
                runCommands() = 9
                part(0, 0, 1) = 3
                part(0, 1, 1) = 3
                part(0, 2, 1) = 2
                whole(4) = 0
                """);
    }

    private static void commandsThatWouldThrow() {
        Script.run("27 until one would throw", WORLD + """
                text "log 0 0 5; log 0 0 8; log 1 0 5;" = 32
                runCommands() = 1             // the second one would be too many hours
                apprentice(0, 2) = 1
                apprentice(1, 2) = 0
                text "trade 2001 0 0;" = 15
                runCommands() = 0
                text "trade 0 0 2000; trade 0 2001 0;" = 31
                runCommands() = 1
                text "mentor 0 1;" = 11
                runCommands() = 0
                text "mentor 7 1;" = 11
                runCommands() = 0
                text "mentor 6 32;" = 12
                runCommands() = 0
                text "pupil 9 0;" = 10
                runCommands() = 0
                text "pupil 0 9;" = 10
                runCommands() = 0
                text "log 2 0 1;" = 10
                runCommands() = 0
                text "log 1 3 1;" = 10
                runCommands() = 0
                text "log 1 0 0;" = 10
                runCommands() = 0
                text "confirm 2;" = 10
                runCommands() = 0
                text "doubt 1;" = 8
                runCommands() = 0
                text "accept 0;" = 9
                runCommands() = 0
                text "refuse 0;" = 9
                runCommands() = 0
                text "move 0 0;" = 9
                runCommands() = 0
                text "swap 1 1;" = 9
                runCommands() = 0
                text "swap 1 2;" = 9
                runCommands() = 0
                text "free 1 200;" = 11
                runCommands() = 0
                text "free 0 0;" = 9
                runCommands() = 0
                text "free 0 1; free 2 1;" = 19
                runCommands() = 1
                whole(0) = 2
                whole(1) = 2
                whole(2) = 2
                """);
    }

    private static void settlingNearTheGreatestNumber() {
        Script.run("27 accept and refuse near the greatest number", WORLD + """
                log(0, 2, 5) = 1
                doubt(0) = 5
                credit(0, 2, 2147483643) = 2147483643
                text "days 1; accept 0;" = 17
                runCommands() = 1             // it would be one hour too many
                apprentice(0, 3) = 1
                text "refuse 0;" = 9
                runCommands() = 1             // what is refused is not added
                apprentice(0, 3) = 0
                apprentice(0, 6) = 5
                """);
    }

    private static void daysCommand() {
        Script.run("27 days", WORLD + """
                text "days 0;" = 7
                runCommands() = 0
                text "days 31;" = 8
                runCommands() = 0
                whole(3) = 0
                log(0, 0, 1) = 1
                text "days 30; days 30;" = 17
                runCommands() = 2
                whole(3) = 60
                apprentice(0, 3) = 1          // doubted on the way
                apprentice(0, 9) = 0
                """);
        Script.run("27 days, near the last one", """
                text "days 30;" = 8
                333 times runCommands() = 1
                whole(3) = 9990
                text "days 10;" = 8
                runCommands() = 0
                whole(3) = 9990
                text "days 3; days 7; days 6;" = 23
                runCommands() = 1
                whole(3) = 9993
                text "days 6; days 1;" = 15
                runCommands() = 1
                whole(3) = 9999
                """);
    }

    private static void runsAreUndone() {
        Script.run("27 a run saves one state", WORLD + """
                text "days 1; days 2; log 0 0 1; log 0 0 1; log 1 0 1; doubt 1;" = 57
                runCommands() = 6
                whole(3) = 3
                endDay() = 0
                undo() = 3
                undo() = 2
                whole(3) = 0
                whole(4) = 0
                whole(5) = 0
                whole(9) = 57                 // the command text is not undone
                undo() = 1
                whole(2) = 1
                text "days 1; x" = 9
                runCommands() = -18
                undo() = 0                    // a text with a fault saves nothing
                undo() throws IllegalStateException
                clearCommands() = 9
                runCommands() = 0             // an empty text saves a state
                text "days 0;" = 7
                runCommands() = 0             // and so does a text whose first command would throw
                undo() = 1
                undo() = 0
                undo() throws IllegalStateException
                """);
    }

    private static void longestText() {
        StringBuilder text = new StringBuilder();
        for (int times = 0; times < 21; times++) {
            text.append("days 1;");
        }
        carriedOut(text.toString(), 21);
        carriedOut(text + "   ", 21);
        fault(text + "da ", 147);
        fault(text + "day", 147);
        fault(" ".repeat(143) + "days 1 ", 150);
        carriedOut(" ".repeat(143) + "days 1;", 1);
        fault(" ".repeat(146) + "days", 150);
        fault("days 1;" + "a".repeat(143), 7);
    }
}
