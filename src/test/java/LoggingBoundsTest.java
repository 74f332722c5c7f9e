/** The boundaries that promises 6 to 11 name, sentence by sentence. */
public final class LoggingBoundsTest {
    private static final String TWO_MENTORS = """
            addTrade(40, 30, 20) = 0
            addMentor(6, 1) = 0
            addMentor(6, 1) = 1
            addApprentice(0, 0) = 0
            """;
    private static final String SIX_APPRENTICES = TWO_MENTORS + """
            addApprentice(0, 0) = 1
            addApprentice(0, 0) = 2
            addApprentice(0, 0) = 3
            addApprentice(0, 0) = 4
            addApprentice(0, 0) = 5
            """;
    private static final String ALL_SIX_LOG = """
            text "log 0 0 1;log 1 0 1;log 2 0 1;log 3 0 1;log 4 0 1;log 5 0 1;" = 60
            """;

    public static void main(String[] arguments) {
        argumentsOfLog();
        answersOfLog();
        refusedLogs();
        argumentsOfConfirm();
        mostEntriesConfirmed();
        confirmUpToTheGreatestNumber();
        doubts();
        settles();
        settlesUpToTheGreatestNumber();
        argumentsOfCredit();
        creditsUpToTheGreatestNumber();
        endsOfDays();
        endOfTheLastDay();
        Sentences.allQuoted(6, 11);
        Script.end();
    }

    private static void argumentsOfLog() {
        Sentences.holds(6, "`apprentice`: number of an apprentice", SIX_APPRENTICES + """
                log(-1, 0, 1) throws IndexOutOfBoundsException
                log(6, 0, 1) throws IndexOutOfBoundsException
                log(0, 0, 1) = 1
                log(5, 0, 1) = 1
                """);
        Sentences.holds(6, "Throws `IndexOutOfBoundsException` if there is no such apprentice", """
                log(0, 0, 1) throws IndexOutOfBoundsException           // there is none
                """ + TWO_MENTORS + """
                log(1, 0, 1) throws IndexOutOfBoundsException
                log(-2147483648, 0, 1) throws IndexOutOfBoundsException
                log(2147483647, 0, 1) throws IndexOutOfBoundsException
                log(0, 0, 1) = 1
                """);
        Sentences.holds(6, "`part`: 0 to 2", TWO_MENTORS + """
                log(0, -1, 1) throws IllegalArgumentException
                log(0, 3, 1) throws IllegalArgumentException
                log(0, 0, 1) = 1
                log(0, 2, 1) = 2
                entry(0, false, 0, 0) = 0
                entry(0, false, 1, 0) = 2
                """);
        Sentences.holds(6, "`hours`: 1 to 12", TWO_MENTORS + """
                addApprentice(0, 0) = 1
                log(0, 0, 0) throws IllegalArgumentException
                log(0, 0, 13) throws IllegalArgumentException
                log(0, 0, 1) = 1
                log(1, 0, 12) = 1
                entry(0, false, 0, 1) = 1
                entry(1, false, 0, 1) = 12
                """);
        Sentences.holds(6, "Throws `IllegalArgumentException` if part or hours is out of range", TWO_MENTORS + """
                log(0, -2147483648, 1) throws IllegalArgumentException
                log(0, 2147483647, 1) throws IllegalArgumentException
                log(0, 3, 12) throws IllegalArgumentException
                log(0, -1, 12) throws IllegalArgumentException
                log(0, 2, -2147483648) throws IllegalArgumentException
                log(0, 2, 2147483647) throws IllegalArgumentException
                log(0, 2, -1) throws IllegalArgumentException
                log(0, 2, 13) throws IllegalArgumentException
                log(0, 3, 0) throws IllegalArgumentException
                whole(4) = 0
                log(0, 2, 12) = 1
                """);
    }

    private static void answersOfLog() {
        Sentences.holds(6, "Logs work on this day. Undoable.", TWO_MENTORS + """
                log(0, 3, 1) throws IllegalArgumentException
                log(0, 0, 12) = 1
                undo() = 3
                apprentice(0, 2) = 0
                apprentice(0, 8) = 0
                apprentice(0, 9) = 0
                log(0, 0, 12) = 1             // all twelve hours are free again
                """);
        Sentences.holds(6, "Returns the pending entries then.", TWO_MENTORS + """
                log(0, 0, 1) = 1
                log(0, 0, 1) = 2
                doubt(0) = 1
                log(0, 0, 1) = 2              // a doubted one is pending no more
                confirm(0, 99) = 2
                log(0, 0, 1) = 1
                text "log 0 0 1;" = 10
                8 times runCommands() = 1
                endDay() = 0
                9 times runCommands() = 1
                log(0, 0, 1) = 19             // the twentieth, with the doubted one
                """);
    }

    private static void refusedLogs() {
        String sentence = "Throws `IllegalStateException` if it cannot log this work";
        Sentences.holds(6, sentence, TWO_MENTORS + """
                addApprentice(0, -1) = 1
                log(1, 0, 1) throws IllegalStateException               // it has no mentor
                log(0, 0, 1) = 1
                leave(0) = 0
                log(0, 0, 1) throws IllegalStateException
                move(0, 0) = 0
                log(0, 0, 1) = 2
                """);
        Sentences.holds(6, sentence, TWO_MENTORS + """
                release(0, 1) = 1
                log(0, 0, 1) = 1              // the day before
                endDay() = 0
                log(0, 0, 1) throws IllegalStateException               // a release day
                endDay() = 0
                log(0, 0, 1) = 2              // the day after
                """);
        Sentences.holds(6, sentence, TWO_MENTORS + """
                log(0, 0, 11) = 1
                log(0, 0, 2) throws IllegalStateException               // thirteen hours
                log(0, 1, 1) = 2              // twelve
                log(0, 2, 1) throws IllegalStateException
                endDay() = 0
                log(0, 2, 12) = 3
                log(0, 2, 1) throws IllegalStateException
                """);
        Sentences.holds(6, sentence, TWO_MENTORS + """
                text "log 0 0 1;" = 10
                12 times runCommands() = 1
                endDay() = 0
                7 times runCommands() = 1
                log(0, 0, 1) = 20             // it had 19
                log(0, 0, 1) throws IllegalStateException
                doubt(0) = 1
                log(0, 0, 1) throws IllegalStateException               // the doubted one counts
                settle(0, true) = 1
                log(0, 0, 1) = 20
                log(0, 0, 1) throws IllegalStateException
                """);
    }

    private static void argumentsOfConfirm() {
        Sentences.holds(7, "`mentor`: number of a mentor", TWO_MENTORS + """
                confirm(-1, 1) throws IndexOutOfBoundsException
                confirm(2, 1) throws IndexOutOfBoundsException
                confirm(0, 1) = 0
                confirm(1, 1) = 0
                """);
        Sentences.holds(7, "Throws `IndexOutOfBoundsException` if there is no such mentor", """
                confirm(0, 1) throws IndexOutOfBoundsException          // there is none
                """ + TWO_MENTORS + """
                confirm(2, 99) throws IndexOutOfBoundsException
                confirm(6, 99) throws IndexOutOfBoundsException
                confirm(-2147483648, 1) throws IndexOutOfBoundsException
                confirm(2147483647, 1) throws IndexOutOfBoundsException
                confirm(1, 99) = 0
                """);
        Sentences.holds(7, "`most`: 1 to 99", TWO_MENTORS + """
                log(0, 0, 1) = 1
                log(0, 0, 1) = 2
                log(0, 0, 1) = 3
                confirm(0, 0) throws IllegalArgumentException
                confirm(0, 100) throws IllegalArgumentException
                confirm(0, 1) = 1
                confirm(0, 99) = 2
                """);
        Sentences.holds(7, "Throws `IllegalArgumentException` if most is out of range", TWO_MENTORS + """
                log(0, 0, 1) = 1
                confirm(0, -1) throws IllegalArgumentException
                confirm(0, -2147483648) throws IllegalArgumentException
                confirm(0, 2147483647) throws IllegalArgumentException
                confirm(0, 100) throws IllegalArgumentException
                confirm(0, 0) throws IllegalArgumentException
                apprentice(0, 2) = 1
                confirm(0, 99) = 1
                """);
    }

    private static void mostEntriesConfirmed() {
        Sentences.holds(7, "the most entries that are confirmed", SIX_APPRENTICES + ALL_SIX_LOG + """
                12 times runCommands() = 6
                endDay() = 0
                8 times runCommands() = 6
                mentor(0, 3) = 120
                confirm(0, 99) = 99           // 20 of the first four, 19 of the fifth one
                mentor(0, 4) = 99
                apprentice(3, 2) = 0
                part(3, 0, 1) = 20
                apprentice(4, 2) = 1
                part(4, 0, 1) = 19
                apprentice(5, 2) = 20
                part(5, 0, 1) = 0
                undo() = 3
                confirm(0, 20) = 20           // all of the first one, none of the second one
                apprentice(0, 2) = 0
                apprentice(1, 2) = 20
                confirm(0, 21) = 21
                apprentice(1, 2) = 0
                apprentice(2, 2) = 19
                confirm(0, 78) = 78
                mentor(0, 3) = 1
                confirm(0, 1) = 1
                mentor(0, 4) = 120
                """);
        Sentences.holds(7, "Returns the number of entries that are confirmed.", TWO_MENTORS + """
                confirm(0, 99) = 0            // none is pending
                log(0, 0, 1) = 1
                log(0, 1, 1) = 2
                log(0, 2, 1) = 3
                confirm(0, 2) = 2
                confirm(0, 2) = 1             // fewer are left
                confirm(0, 2) = 0
                """);
        Sentences.holds(7, "Confirms entries. Undoable.", TWO_MENTORS + """
                log(0, 0, 1) = 1
                confirm(0, 100) throws IllegalArgumentException
                confirm(1, 1) = 0             // nothing changes, and a state is saved
                confirm(0, 1) = 1
                undo() = 3
                apprentice(0, 2) = 1
                part(0, 0, 1) = 0
                mentor(0, 4) = 0
                undo() = 2
                apprentice(0, 2) = 1
                undo() = 1
                apprentice(0, 2) = 0
                """);
    }

    private static void confirmUpToTheGreatestNumber() {
        String sentence = "Throws `IllegalStateException` if done hours would be greater than 2147483647";
        for (int part = 0; part < 3; part++) {
            Sentences.holds(7, sentence, SIX_APPRENTICES + """
                    credit(1, PART, 2147483640) = 2147483640
                    log(0, PART, 9) = 1
                    log(1, PART, 3) = 1
                    log(1, PART, 4) = 2
                    log(1, PART, 1) = 3
                    confirm(0, 99) throws IllegalStateException         // 2147483648
                    confirm(0, 4) throws IllegalStateException
                    part(0, PART, 1) = 0      // the entry of the first one stays, too
                    part(1, PART, 1) = 2147483640
                    confirm(0, 3) = 3         // 2147483647
                    part(0, PART, 1) = 9
                    part(1, PART, 1) = 2147483647
                    confirm(0, 1) throws IllegalStateException
                    log(0, PART, 3) = 1
                    confirm(0, 1) = 1         // the first one's is confirmed alone
                    confirm(0, 1) throws IllegalStateException
                    """.replace("PART", String.valueOf(part)));
        }
        Sentences.holds(7, sentence, TWO_MENTORS + """
                credit(0, 0, 2147483647) = 2147483647
                credit(0, 1, 2147483635) = 2147483635
                log(0, 1, 12) = 1
                confirm(0, 1) = 1             // each part by itself
                endDay() = 0
                log(0, 2, 1) = 1
                log(0, 0, 1) = 2
                confirm(0, 2) throws IllegalStateException
                confirm(0, 1) = 1
                credit(0, 0, -1) = 2147483646
                confirm(0, 1) = 1
                """);
    }

    private static void doubts() {
        Sentences.holds(8, "`apprentice`: number of an apprentice", SIX_APPRENTICES + """
                log(0, 0, 1) = 1
                log(5, 0, 1) = 1
                doubt(-1) throws IndexOutOfBoundsException
                doubt(6) throws IndexOutOfBoundsException
                doubt(0) = 1
                doubt(5) = 1
                """);
        Sentences.holds(8, "Throws `IndexOutOfBoundsException` if there is no such apprentice", """
                doubt(0) throws IndexOutOfBoundsException               // there is none
                """ + TWO_MENTORS + """
                log(0, 0, 1) = 1
                doubt(1) throws IndexOutOfBoundsException
                doubt(-2147483648) throws IndexOutOfBoundsException
                doubt(2147483647) throws IndexOutOfBoundsException
                doubt(0) = 1
                """);
        Sentences.holds(8, "Returns the hours of the entry.", TWO_MENTORS + """
                log(0, 0, 12) = 1
                endDay() = 0
                log(0, 0, 1) = 2
                doubt(0) = 12
                doubt(0) = 1
                """);
        Sentences.holds(8, "Throws `IllegalStateException` if it has no mentor, or no pending entry", TWO_MENTORS + """
                addApprentice(0, -1) = 1
                doubt(1) throws IllegalStateException                   // neither
                doubt(0) throws IllegalStateException                   // no pending entry
                log(0, 0, 2) = 1
                leave(0) = 0
                doubt(0) throws IllegalStateException                   // no mentor
                move(0, 0) = 0
                doubt(0) = 2
                doubt(0) throws IllegalStateException                   // a doubted one alone
                """);
        Sentences.holds(8, "Doubts the oldest pending entry of an apprentice. Undoable.", TWO_MENTORS + """
                doubt(0) throws IllegalStateException
                log(0, 0, 3) = 1
                log(0, 0, 4) = 2
                doubt(0) = 3
                undo() = 3
                apprentice(0, 3) = 0
                entry(0, false, 0, 1) = 3
                entry(0, false, 1, 1) = 4
                doubt(0) = 3
                doubt(0) = 4
                """);
    }

    private static void settles() {
        String doubted = SIX_APPRENTICES + """
                log(0, 0, 12) = 1
                log(5, 1, 1) = 1
                doubt(0) = 12
                doubt(5) = 1
                """;
        Sentences.holds(9, "`apprentice`: number of an apprentice", doubted + """
                settle(-1, true) throws IndexOutOfBoundsException
                settle(6, true) throws IndexOutOfBoundsException
                settle(0, true) = 12
                settle(5, true) = 1
                """);
        Sentences.holds(9, "Throws `IndexOutOfBoundsException` if there is no such apprentice", """
                settle(0, false) throws IndexOutOfBoundsException       // there is none
                """ + doubted + """
                settle(6, false) throws IndexOutOfBoundsException
                settle(-2147483648, true) throws IndexOutOfBoundsException
                settle(2147483647, false) throws IndexOutOfBoundsException
                settle(5, false) = 1
                """);
        Sentences.holds(9, "`accept`: whether it is accepted", doubted + """
                settle(0, true) = 12
                part(0, 0, 1) = 12
                apprentice(0, 6) = 0
                settle(5, false) = 1
                part(5, 1, 1) = 0
                apprentice(5, 6) = 1
                """);
        Sentences.holds(9, "Returns the hours of the entry.", doubted + """
                settle(0, true) = 12
                settle(5, false) = 1
                undo() = 3
                settle(5, true) = 1
                """);
        Sentences.holds(9, "Throws `IllegalStateException` if it has no doubted entry", doubted + """
                settle(1, true) throws IllegalStateException
                settle(1, false) throws IllegalStateException
                log(1, 0, 1) = 1
                settle(1, true) throws IllegalStateException            // a pending one alone
                settle(0, false) = 12
                settle(0, false) throws IllegalStateException
                leave(5) = 0
                settle(5, true) = 1           // it needs no mentor
                settle(5, true) throws IllegalStateException
                """);
        Sentences.holds(9, "Accepts or refuses the oldest doubted entry of an apprentice. Undoable.", doubted + """
                settle(1, true) throws IllegalStateException
                log(5, 1, 2) = 1
                doubt(5) = 2
                settle(5, false) = 1          // the oldest one
                undo() = 3
                apprentice(5, 6) = 0
                apprentice(5, 3) = 2
                settle(5, true) = 1
                undo() = 3
                part(5, 1, 1) = 0
                entry(5, true, 0, 1) = 1
                entry(5, true, 1, 1) = 2
                """);
    }

    private static void settlesUpToTheGreatestNumber() {
        for (int part = 0; part < 3; part++) {
            Sentences.holds(9, "or done hours would be greater than 2147483647", TWO_MENTORS + """
                    log(0, PART, 5) = 1
                    log(0, PART, 6) = 2
                    doubt(0) = 5
                    doubt(0) = 6
                    credit(0, PART, 2147483643) = 2147483643
                    settle(0, true) throws IllegalStateException        // 2147483648
                    credit(0, PART, -1) = 2147483642
                    settle(0, true) = 5       // 2147483647
                    part(0, PART, 1) = 2147483647
                    settle(0, true) throws IllegalStateException
                    settle(0, false) = 6      // what is refused is not done
                    """.replace("PART", String.valueOf(part)));
        }
    }

    private static void argumentsOfCredit() {
        Sentences.holds(10, "`apprentice`: number of an apprentice", SIX_APPRENTICES + """
                credit(-1, 0, 1) throws IndexOutOfBoundsException
                credit(6, 0, 1) throws IndexOutOfBoundsException
                credit(0, 0, 1) = 1
                credit(5, 0, 2) = 2
                """);
        Sentences.holds(10, "Throws `IndexOutOfBoundsException` if there is no such apprentice", """
                credit(0, 0, 0) throws IndexOutOfBoundsException        // there is none
                """ + TWO_MENTORS + """
                credit(1, 0, 0) throws IndexOutOfBoundsException
                credit(-2147483648, 0, 0) throws IndexOutOfBoundsException
                credit(2147483647, 0, 0) throws IndexOutOfBoundsException
                credit(0, 0, 0) = 0
                """);
        Sentences.holds(10, "`part`: 0 to 2", TWO_MENTORS + """
                credit(0, -1, 1) throws IllegalArgumentException
                credit(0, 3, 1) throws IllegalArgumentException
                credit(0, 0, 1) = 1
                credit(0, 2, 2) = 2
                part(0, 0, 1) = 1
                part(0, 1, 1) = 0
                part(0, 2, 1) = 2
                """);
        Sentences.holds(10, "Throws `IllegalArgumentException` if part is out of range", TWO_MENTORS + """
                credit(0, -2147483648, 0) throws IllegalArgumentException
                credit(0, 2147483647, 0) throws IllegalArgumentException
                credit(0, -1, 0) throws IllegalArgumentException
                credit(0, 3, 0) throws IllegalArgumentException
                credit(0, 2, 0) = 0
                """);
    }

    private static void creditsUpToTheGreatestNumber() {
        Sentences.holds(10, "`hours`: any number", TWO_MENTORS + """
                credit(0, 0, 2147483647) = 2147483647
                credit(0, 0, -2147483647) = 0
                credit(0, 0, 0) = 0
                credit(0, 0, -2147483648) throws IllegalStateException  // no fault of the number
                """);
        Sentences.holds(10, "Returns the done hours of the part then.", TWO_MENTORS + """
                credit(0, 1, 0) = 0
                credit(0, 1, 7) = 7
                credit(0, 1, -3) = 4
                credit(0, 1, -4) = 0
                credit(0, 2, 2147483647) = 2147483647
                credit(0, 2, -1) = 2147483646
                """);
        Sentences.holds(10, "Gives a credit. Undoable.", TWO_MENTORS + """
                credit(0, 1, -1) throws IllegalStateException
                credit(0, 1, 5) = 5
                credit(0, 1, 0) = 5           // nothing changes, and a state is saved
                undo() = 3
                part(0, 1, 1) = 5
                undo() = 2
                part(0, 1, 1) = 0
                """);
        for (int part = 0; part < 3; part++) {
            Sentences.holds(10, "Throws `IllegalStateException` if these would be below 0 or greater than 2147483647",
                    TWO_MENTORS + """
                    credit(0, PART, -1) throws IllegalStateException
                    credit(0, PART, -2147483648) throws IllegalStateException
                    credit(0, PART, 5) = 5
                    credit(0, PART, -6) throws IllegalStateException
                    credit(0, PART, -5) = 0
                    credit(0, PART, 1) = 1
                    credit(0, PART, 2147483647) throws IllegalStateException
                    credit(0, PART, 2147483646) = 2147483647
                    credit(0, PART, 1) throws IllegalStateException
                    credit(0, PART, 2147483647) throws IllegalStateException
                    credit(0, PART, -2147483648) throws IllegalStateException
                    credit(0, PART, 0) = 2147483647
                    credit(0, PART, -2147483647) = 0
                    """.replace("PART", String.valueOf(part)));
        }
    }

    private static void endsOfDays() {
        Sentences.holds(11, "Ends the day. Undoable.", TWO_MENTORS + """
                log(0, 0, 12) = 1
                endDay() = 0
                whole(3) = 1
                undo() = 3
                whole(3) = 0
                apprentice(0, 9) = 12         // the hours of the day that has not ended
                log(0, 0, 1) throws IllegalStateException
                endDay() = 0
                apprentice(0, 9) = 0
                """);
        Sentences.holds(11, "Returns the number of entries that become doubted.", SIX_APPRENTICES + """
                endDay() = 0                  // without any entry
                """ + ALL_SIX_LOG + """
                12 times runCommands() = 6
                doubt(5) = 1                  // doubted already
                endDay() = 0
                log(0, 0, 1) = 13
                text "days 13;" = 8
                runCommands() = 1
                whole(3) = 15
                whole(4) = 72
                endDay() = 71
                whole(4) = 1
                endDay() = 1
                whole(5) = 73
                endDay() = 0
                """);
    }

    private static void endOfTheLastDay() {
        Sentences.holds(11, "Throws `IllegalStateException` if the day is 9999", TWO_MENTORS + """
                text "days 30;" = 8
                333 times runCommands() = 1
                text "days 8;" = 7
                runCommands() = 1
                whole(3) = 9998
                endDay() = 0
                whole(3) = 9999
                endDay() throws IllegalStateException
                whole(3) = 9999
                log(0, 0, 12) = 1             // the last day has hours like each other
                endDay() throws IllegalStateException
                apprentice(0, 9) = 12
                """);
    }
}
