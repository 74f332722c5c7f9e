/** What promises 2 to 14 call undoable, with promise 28: undo brings the whole state back. */
public final class UndoBoundsTest {
    private static final String BUSY = """
            addTrade(40, 30, 20) = 0
            addMentor(3, 1) = 0
            addMentor(3, 1) = 1
            addApprentice(0, 0) = 0
            addApprentice(0, 1) = 1
            release(1, 5) = 1
            log(0, 0, 5) = 1
            log(0, 1, 2) = 2
            log(1, 1, 2) = 1
            log(1, 1, 3) = 2
            doubt(1) = 2
            """;
    private static final String RESTORES = "Restores the latest saved state";

    public static void main(String[] arguments) {
        undoableCalls();
        rowsOfNewNumbers();
        rowsThatWereSavedBefore();
        workedDays();
        Script.end();
    }

    private static void undoableCalls() {
        Sentences.undoable(2, "Adds a trade. Undoable.", BUSY, "addTrade(1, 2, 3) = 1");
        Sentences.undoable(3, "Adds a mentor. Undoable.", BUSY, "addMentor(2, 2) = 2");
        Sentences.undoable(4, "Adds an apprentice. Undoable.", BUSY, "addApprentice(0, 1) = 2");
        Sentences.undoable(5, "Adds a release day. Undoable.", BUSY, "release(1, 3) = 2");
        Sentences.undoable(5, "Adds a release day. Undoable.", BUSY, "release(1, 5) = 1");
        Sentences.undoable(6, "Logs work on this day. Undoable.", BUSY, "log(1, 2, 7) = 2");
        Sentences.undoable(7, "Confirms entries. Undoable.", BUSY, "confirm(0, 99) = 2");
        Sentences.undoable(8, "Doubts the oldest pending entry of an apprentice. Undoable.", BUSY, "doubt(0) = 5");
        String settle = "Accepts or refuses the oldest doubted entry of an apprentice. Undoable.";
        Sentences.undoable(9, settle, BUSY, "settle(1, true) = 2");
        Sentences.undoable(9, settle, BUSY, "settle(1, false) = 2");
        Sentences.undoable(10, "Gives a credit. Undoable.", BUSY, "credit(1, 2, 2147483647) = 2147483647");
        Sentences.undoable(10, "Gives a credit. Undoable.", BUSY, "credit(1, 2, 0) = 0");
        Sentences.undoable(11, "Ends the day. Undoable.", BUSY, "endDay() = 0");
        Sentences.undoable(11, "Ends the day. Undoable.", BUSY + "14 times endDay() = 0\n", "endDay() = 3");
        Sentences.undoable(12, "Moves an apprentice to a mentor. Undoable.", BUSY, "move(0, 1) = 2");
        Sentences.undoable(13, "Lets an apprentice leave its mentor. Undoable.", BUSY, "leave(0) = 0");
        Sentences.undoable(14, "Exchanges two apprentices. Undoable.", BUSY, "exchange(0, 1) = 3");
    }

    /** Numbers that were used before undo stand for new trades, mentors and apprentices. */
    private static void rowsOfNewNumbers() {
        for (int part = 0; part < 3; part++) {
            Sentences.holds(28, RESTORES, """
                    text "trade 7 8 9;mentor 1 31;pupil 0 0;log 0 PART 3;confirm 0;log 0 0 2;log 0 0 4;doubt 0;refuse 0;mentor 1 1;move 0 1;log 0 1 1;free 0 9;free 0 199;" = 141
                    runCommands() = 14
                    mentor(0, 4) = 1
                    undo() = 0
                    whole(0) = 0
                    whole(1) = 0
                    whole(2) = 0
                    whole(8) = 0
                    addTrade(1, 2, 3) = 0
                    addMentor(2, 1) = 0
                    mentor(0, 0) = 2
                    mentor(0, 1) = 1
                    mentor(0, 4) = 0
                    addApprentice(0, 0) = 0
                    apprentice(0, 2) = 0
                    apprentice(0, 3) = 0
                    apprentice(0, 6) = 0
                    apprentice(0, 7) = 0
                    apprentice(0, 8) = 0
                    apprentice(0, 9) = 0
                    apprentice(0, 10) = 0
                    part(0, PART, 0) = NEED
                    part(0, PART, 1) = 0
                    nextRelease(0, 0) = -1
                    release(0, 0) = 1
                    """.replace("PART", String.valueOf(part)).replace("NEED", String.valueOf(part + 1)));
        }
    }

    /** The stack holds states of its own: what it held before undo does not come back. */
    private static void rowsThatWereSavedBefore() {
        Sentences.holds(28, RESTORES, """
                text "trade 7 8 9;trade 4 5 6;mentor 1 3;pupil 1 0;log 0 0 1;free 0 3;" = 64
                runCommands() = 6
                endDay() = 0
                log(0, 2, 5) = 2
                undo() = 2
                undo() = 1
                undo() = 0
                text "trade 1 2 3;mentor 2 1;pupil 0 0;log 0 1 2;free 0 200;" = 54
                runCommands() = 4
                endDay() = 0
                log(0, 0, 12) = 2
                undo() = 2
                part(0, 0, 0) = 1
                part(0, 1, 0) = 2
                part(0, 2, 0) = 3
                mentor(0, 0) = 2
                mentor(0, 1) = 1
                apprentice(0, 0) = 0
                apprentice(0, 7) = 0
                nextRelease(0, 0) = -1
                apprentice(0, 2) = 1
                entry(0, false, 0, 0) = 1
                entry(0, false, 0, 1) = 2
                undo() = 1
                part(0, 0, 0) = 1
                mentor(0, 0) = 2
                mentor(0, 1) = 1
                apprentice(0, 0) = 0
                entry(0, false, 0, 1) = 2
                """);
    }

    private static void workedDays() {
        Sentences.holds(28, RESTORES, BUSY + """
                endDay() = 0
                log(0, 0, 3) = 3
                release(0, 1) throws IllegalStateException
                undo() = 3
                release(0, 1) = 1             // no work was logged on this day
                undo() = 3
                nextRelease(0, 0) = -1
                log(0, 0, 12) = 3
                release(0, 1) throws IllegalStateException
                """);
        // The last of its 200 days and the first one are kept apart.
        Sentences.holds(28, RESTORES, BUSY + """
                release(1, 199) = 2
                release(1, 63) = 3
                release(1, 64) = 4
                undo() = 3
                nextRelease(1, 64) = 199
                undo() = 2
                nextRelease(1, 6) = 199
                undo() = 1
                nextRelease(1, 6) = -1
                nextRelease(1, 0) = 5
                """);
    }
}
