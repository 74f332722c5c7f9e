/** The boundaries that the terms of logging, moves and credits name. */
final class TermsOfLogging {
    private static final int TERMS = Sentences.TERMS;
    private static final String FOUR_APPRENTICES = """
            addTrade(40, 30, 20) = 0
            addTrade(5, 5, 5) = 1
            addMentor(3, 1) = 0
            addMentor(1, 3) = 1
            addMentor(2, 3) = 2
            addApprentice(0, 0) = 0
            addApprentice(0, 0) = 1
            addApprentice(0, 1) = 2
            addApprentice(1, 2) = 3
            """;

    private TermsOfLogging() {
    }

    static void hold() {
        whoCanLog();
        queues();
        confirming();
        passingOver();
        doubting();
        endsOfDays();
        reasons();
        moving();
        exchanging();
        credits();
    }

    private static void whoCanLog() {
        Sentences.holds(TERMS, "An apprentice can log work for a part if it has a mentor", FOUR_APPRENTICES + """
                text "log 0 0 1;" = 10
                runCommands() = 1
                leave(0) = 0
                runCommands() = 0
                move(0, 2) = 1
                runCommands() = 1
                """);
        Sentences.holds(TERMS, "this day is no release day of it", FOUR_APPRENTICES + """
                release(1, 0) = 1
                text "free 0 1;log 0 0 1;days 1;log 0 0 1;" = 36
                runCommands() = 3
                text "days 1;log 0 0 1;free 0 2;" = 26
                runCommands() = 2             // a release day can be none on which it worked
                text "log 1 0 1;" = 10
                runCommands() = 1
                """);
        Sentences.holds(TERMS, "the hours that it logged on this day are at most 12 with the new ones", FOUR_APPRENTICES + """
                text "log 0 0 5;log 0 1 7;log 0 2 1;" = 30
                runCommands() = 2
                text "confirm 0;log 0 2 1;" = 20
                runCommands() = 1             // what was confirmed was logged on this day, too
                text "log 1 0 5;log 1 1 8;" = 20
                runCommands() = 1
                text "days 1;log 0 2 12;log 0 0 1;" = 28
                runCommands() = 2
                """);
        Sentences.holds(TERMS, "and it has fewer than 20 entries.", FOUR_APPRENTICES + """
                text "log 0 0 1;log 0 0 1;log 0 0 1;log 0 0 1;log 0 0 1;log 0 0 1;log 0 0 1;log 0 0 1;log 0 0 1;" = 90
                runCommands() = 9
                endDay() = 0
                runCommands() = 9
                endDay() = 0
                runCommands() = 2             // 18 and 2
                apprentice(0, 2) = 20
                confirm(0, 1) = 1
                runCommands() = 1
                text "log 1 0 1;" = 10
                runCommands() = 1             // each has 20 of its own
                """);
    }

    private static void queues() {
        Sentences.holds(TERMS, "The entry comes to the end of its pending entries.", FOUR_APPRENTICES + """
                log(0, 2, 3) = 1
                log(0, 1, 4) = 2
                entry(0, false, 0, 1) = 3
                entry(0, false, 1, 1) = 4
                doubt(0) = 3
                log(0, 0, 5) = 2
                entry(0, false, 0, 1) = 4
                entry(0, false, 1, 1) = 5
                entry(0, false, 2, 1) = -1
                """);
    }

    private static void confirming() {
        Sentences.holds(TERMS, "of all apprentices whose mentor it is now", FOUR_APPRENTICES + """
                log(0, 0, 1) = 1
                log(2, 0, 1) = 1
                leave(0) = 0
                confirm(0, 99) = 0            // its mentor no more
                move(0, 0) = 0
                confirm(0, 99) = 1
                confirm(2, 99) = 0            // never its mentor
                """);
        Sentences.holds(TERMS, "of all apprentices whose mentor it is now", """
                addTrade(40, 30, 20) = 0
                addMentor(6, 1) = 0
                addMentor(6, 1) = 1
                text "pupil 0 0;pupil 0 0;pupil 0 1;pupil 0 0;pupil 0 1;" = 50
                2 times runCommands() = 5
                whole(2) = 10                 // there can be no more
                log(0, 0, 1) = 1
                log(9, 0, 2) = 1
                log(8, 0, 4) = 1
                confirm(1, 99) = 1
                part(9, 0, 1) = 2             // the last one, too
                confirm(0, 99) = 2
                confirm(0, 1) = 0
                confirm(1, 99) = 0
                """);
        Sentences.holds(TERMS, "of all apprentices whose mentor it is now", """
                addTrade(40, 30, 20) = 0
                addMentor(6, 1) = 0
                addApprentice(0, 0) = 0
                credit(0, 0, 0) = 0
                addApprentice(0, 0) = 1
                log(1, 0, 5) = 1
                undo() = 3
                undo() = 2
                confirm(0, 99) = 0            // there is no such apprentice, nor an entry of it
                mentor(0, 4) = 0
                addApprentice(0, 0) = 1
                credit(1, 0, 2147483647) = 2147483647
                log(1, 0, 5) = 1
                undo() = 3
                undo() = 2
                undo() = 1
                log(0, 0, 1) = 1
                confirm(0, 99) = 1
                """);
        Sentences.holds(TERMS, "of all apprentices whose mentor it is now", """
                addTrade(40, 30, 20) = 0
                addMentor(6, 1) = 0
                addApprentice(0, 0) = 0
                addApprentice(0, 0) = 1
                credit(1, 0, 2147483647) = 2147483647
                log(1, 0, 5) = 1
                confirm(0, 99) throws IllegalStateException
                undo() = 3
                undo() = 2
                undo() = 1
                whole(2) = 1
                confirm(0, 99) = 0            // the hours of one that is no more are in nobody's way
                """);
        Sentences.holds(TERMS, "by ascending numbers", FOUR_APPRENTICES + """
                move(3, 1) throws IllegalStateException
                log(1, 0, 2) = 1
                log(0, 0, 1) = 1
                confirm(0, 1) = 1
                apprentice(0, 2) = 0          // though the other one's entry is older
                apprentice(1, 2) = 1
                confirm(0, 1) = 1
                apprentice(1, 2) = 0
                """);
        Sentences.holds(TERMS, "for each of them from the oldest pending entry on", FOUR_APPRENTICES + """
                log(0, 0, 3) = 1
                log(0, 1, 4) = 2
                log(0, 2, 5) = 3
                confirm(0, 2) = 2
                part(0, 0, 1) = 3
                part(0, 1, 1) = 4
                part(0, 2, 1) = 0
                entry(0, false, 0, 1) = 5
                """);
        Sentences.holds(TERMS, "each becomes done hours of its part.", FOUR_APPRENTICES + """
                log(0, 0, 1) = 1
                log(0, 2, 2) = 2
                log(0, 0, 4) = 3
                confirm(0, 99) = 3
                part(0, 0, 1) = 5
                part(0, 1, 1) = 0
                part(0, 2, 1) = 2
                """);
    }

    private static void passingOver() {
        // An apprentice with a mentor never has a pending entry of another one, for each way to
        // a mentor doubts those: so such an entry is only seen while it has no mentor.
        Sentences.holds(TERMS, "An entry that was logged with another mentor is passed over, and stays pending.", FOUR_APPRENTICES + """
                log(0, 0, 1) = 1
                leave(0) = 0
                confirm(1, 99) = 0
                confirm(2, 99) = 0
                confirm(0, 99) = 0
                apprentice(0, 2) = 1
                mentor(0, 3) = 0
                move(0, 2) = 1
                confirm(2, 99) = 0
                apprentice(0, 3) = 1
                part(0, 0, 1) = 0
                """);
    }

    private static void doubting() {
        Sentences.holds(TERMS, "A mentor can also doubt the oldest pending entry of one of its apprentices", FOUR_APPRENTICES + """
                text "doubt 0;" = 8
                runCommands() = 0             // none is pending
                log(0, 0, 1) = 1
                log(0, 0, 2) = 2
                leave(0) = 0
                runCommands() = 0             // nobody's apprentice
                move(0, 0) = 0
                runCommands() = 1
                entry(0, true, 0, 1) = 1
                """);
        Sentences.holds(TERMS, "it comes to the end of the doubted entries.", FOUR_APPRENTICES + """
                log(0, 0, 1) = 1
                log(0, 0, 2) = 2
                log(0, 0, 3) = 3
                doubt(0) = 1
                doubt(0) = 2
                doubt(0) = 3
                entry(0, true, 0, 1) = 1
                entry(0, true, 1, 1) = 2
                entry(0, true, 2, 1) = 3
                entry(0, true, 3, 1) = -1
                """);
        Sentences.holds(TERMS, "A doubted entry, the oldest one first, is accepted, and becomes done hours of its part, or it is refused, and its hours are counted as refused.",
                FOUR_APPRENTICES + """
                text "accept 0;" = 9
                runCommands() = 0
                text "refuse 0;" = 9
                runCommands() = 0
                log(0, 2, 1) = 1
                log(0, 1, 2) = 2
                doubt(0) = 1
                doubt(0) = 2
                text "accept 0;refuse 0;accept 0;" = 27
                runCommands() = 2
                part(0, 2, 1) = 1
                part(0, 1, 1) = 0
                apprentice(0, 6) = 2
                """);
    }

    private static void endsOfDays() {
        String sentence = "each pending entry that was logged 14 days before this day or earlier is doubted";
        Sentences.holds(TERMS, sentence, FOUR_APPRENTICES + """
                log(0, 0, 1) = 1
                endDay() = 0
                log(0, 0, 2) = 2
                text "days 12;" = 8
                runCommands() = 1
                whole(3) = 13
                endDay() = 0                  // logged 13 days before
                apprentice(0, 2) = 2
                endDay() = 1                  // 14 days before
                entry(0, true, 0, 1) = 1
                entry(0, false, 0, 1) = 2
                endDay() = 1
                apprentice(0, 3) = 2
                endDay() = 0
                """);
        Sentences.holds(TERMS, sentence, FOUR_APPRENTICES + """
                log(0, 0, 1) = 1
                text "days 14;" = 8
                runCommands() = 1             // the days 0 to 13 end
                apprentice(0, 2) = 1
                text "days 1;" = 7
                runCommands() = 1
                apprentice(0, 2) = 0
                apprentice(0, 3) = 1
                """);
        Sentences.holds(TERMS, "by ascending apprentices and from the oldest entry on.", FOUR_APPRENTICES + """
                leave(1) = 0
                move(1, 0) = 0
                log(1, 0, 4) = 1
                log(0, 1, 1) = 1
                log(0, 0, 2) = 2
                doubt(1) = 4
                log(1, 2, 5) = 1
                leave(0) = 0
                text "days 14;" = 8
                runCommands() = 1
                endDay() = 3                  // without a mentor, too
                entry(0, true, 0, 1) = 1
                entry(0, true, 1, 1) = 2
                entry(1, true, 0, 1) = 4      // doubted before
                entry(1, true, 1, 1) = 5
                """);
        Sentences.holds(TERMS, "Then the day increases by 1.", """
                endDay() = 0
                whole(3) = 1
                endDay() = 0
                whole(3) = 2
                text "days 1;days 2;" = 14
                runCommands() = 2
                whole(3) = 5
                """);
    }

    private static void reasons() {
        Sentences.holds(TERMS, "for the first reason that applies: 1 it has this mentor already; 2 the mentor does not teach its trade; 3 the mentor has as many apprentices as its ratio tells.",
                FOUR_APPRENTICES + """
                reason(2, 1) = 1              // 1 and 3
                reason(0, 0) = 1
                addApprentice(0, 0) = 4
                reason(3, 0) = 2              // 2 and 3
                reason(0, 1) = 3              // one of one
                reason(2, 0) = 3              // three of three
                reason(0, 2) = 0              // one of two
                move(0, 2) = 0
                reason(1, 2) = 3              // two of two
                reason(2, 0) = 0
                reason(3, 0) = 2
                text "move 2 1;" = 9
                runCommands() = 0
                text "move 3 0;" = 9
                runCommands() = 0
                text "move 1 1;" = 9
                runCommands() = 0
                text "move 2 0;move 1 1;" = 18
                runCommands() = 2
                """);
    }

    private static void moving() {
        Sentences.holds(TERMS, "its pending entries that were logged with other mentors than the new one are doubted, from the oldest on.",
                FOUR_APPRENTICES + """
                log(0, 0, 1) = 1
                log(0, 1, 2) = 2
                log(0, 2, 3) = 3
                doubt(0) = 1
                leave(0) = 0
                move(0, 0) = 0                // back to the mentor that they were logged with
                apprentice(0, 2) = 2
                move(0, 2) = 2
                entry(0, true, 0, 1) = 1
                entry(0, true, 1, 1) = 2
                entry(0, true, 2, 1) = 3
                log(0, 0, 4) = 1
                move(0, 0) = 1                // doubted ones of this mentor stay doubted
                entry(0, true, 3, 1) = 4
                apprentice(0, 2) = 0
                """);
        Sentences.holds(TERMS, "An apprentice can also leave its mentor: then nothing is doubted.", FOUR_APPRENTICES + """
                log(0, 0, 1) = 1
                leave(0) = 0
                apprentice(0, 2) = 1
                apprentice(0, 3) = 0
                leave(0) throws IllegalStateException
                leave(1) = 0
                apprentice(1, 2) = 0
                """);
    }

    private static void exchanging() {
        Sentences.holds(TERMS, "Two apprentices that have different mentors can be exchanged if each mentor teaches the trade of the other one's apprentice",
                FOUR_APPRENTICES + """
                text "swap 0 1;" = 9
                runCommands() = 0             // the same mentor
                text "swap 0 3;" = 9
                runCommands() = 0             // mentor 0 does not teach trade 1
                text "swap 3 0;" = 9
                runCommands() = 0
                text "swap 3 2;swap 0 2;swap 0 0;" = 27
                runCommands() = 2
                apprentice(3, 1) = 1
                apprentice(2, 1) = 0
                apprentice(0, 1) = 2
                """);
        Sentences.holds(TERMS, "the ratios do not matter then.", FOUR_APPRENTICES + """
                addApprentice(0, 0) = 4
                reason(0, 1) = 3
                reason(2, 0) = 3
                text "swap 0 2;" = 9
                runCommands() = 1             // both mentors are full
                mentor(0, 2) = 3
                mentor(1, 2) = 1
                """);
        Sentences.holds(TERMS, "Each gets the mentor of the other one, as if both moved, the first one first.", FOUR_APPRENTICES + """
                log(0, 0, 1) = 1
                leave(0) = 0
                log(2, 0, 2) = 1
                move(0, 2) = 1
                log(0, 0, 3) = 1
                log(2, 0, 4) = 2
                exchange(0, 2) = 3
                apprentice(0, 1) = 1
                apprentice(2, 1) = 2
                apprentice(0, 10) = 2
                apprentice(2, 10) = 1
                entry(0, true, 0, 1) = 1
                entry(0, true, 1, 1) = 3
                entry(2, true, 0, 1) = 2
                entry(2, true, 1, 1) = 4
                """);
    }

    private static void credits() {
        Sentences.holds(TERMS, "any number of hours, also below 0, is added to the done hours, if these stay from 0 to 2147483647.",
                FOUR_APPRENTICES + """
                credit(0, 0, 2147483647) = 2147483647
                credit(0, 0, 1) throws IllegalStateException
                credit(0, 0, -2147483648) throws IllegalStateException
                credit(0, 0, -2147483647) = 0
                credit(0, 0, -1) throws IllegalStateException
                credit(0, 0, 0) = 0
                leave(0) = 0
                credit(0, 0, 3) = 3           // it needs no mentor
                """);
    }
}
