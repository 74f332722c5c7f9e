/** The boundaries that promises 16 to 20 name, sentence by sentence. */
public final class ValuesBoundsTest {
    private static final String ONE_OF_EACH = """
            addTrade(40, 30, 20) = 0
            addMentor(6, 1) = 0
            addApprentice(0, 0) = 0
            """;
    private static final String TWO_OF_EACH = ONE_OF_EACH + """
            addTrade(7, 8, 9) = 1
            addMentor(1, 31) = 1
            addApprentice(1, -1) = 1
            """;
    private static final String TWENTY_ENTRIES = ONE_OF_EACH + """
            text "log 0 0 1;" = 10
            11 times runCommands() = 1
            log(0, 2, 1) = 12
            endDay() = 0
            7 times runCommands() = 1
            log(0, 1, 5) = 20
            """;

    public static void main(String[] arguments) {
        argumentsOfMentor();
        valuesOfMentors();
        argumentsOfApprentice();
        entriesOfApprentices();
        daysOfApprentices();
        movesOfApprentices();
        argumentsOfPart();
        valuesOfParts();
        completeApprentices();
        argumentsOfEntry();
        lastEntries();
        argumentsOfWhole();
        countsOfTheWhole();
        sumsOfTheWhole();
        Sentences.allQuoted(16, 20);
        Script.end();
    }

    private static void argumentsOfMentor() {
        Sentences.namesNoBoundary(16, "Returns a value of a mentor.");
        Sentences.namesNoBoundary(16, "Returns that value.");
        Sentences.holds(16, "`mentor`: number of a mentor", TWO_OF_EACH + """
                mentor(-1, 0) throws IndexOutOfBoundsException
                mentor(2, 0) throws IndexOutOfBoundsException
                mentor(0, 0) = 6
                mentor(1, 0) = 1
                """);
        Sentences.holds(16, "Throws `IndexOutOfBoundsException` if there is no such mentor", """
                mentor(0, 0) throws IndexOutOfBoundsException           // there is none
                """ + ONE_OF_EACH + """
                mentor(1, 0) throws IndexOutOfBoundsException
                mentor(-2147483648, 4) throws IndexOutOfBoundsException
                mentor(2147483647, 4) throws IndexOutOfBoundsException
                mentor(0, 4) = 0
                """);
        Sentences.holds(16, "Throws `IllegalArgumentException` if what is out of range", ONE_OF_EACH + """
                mentor(0, -1) throws IllegalArgumentException
                mentor(0, 5) throws IllegalArgumentException
                mentor(0, -2147483648) throws IllegalArgumentException
                mentor(0, 2147483647) throws IllegalArgumentException
                mentor(0, 0) = 6
                mentor(0, 4) = 0
                """);
    }

    private static void valuesOfMentors() {
        Sentences.holds(16, "`what`: 0 ratio, 1 set of trades, 2 apprentices", """
                addTrade(1, 1, 1) = 0
                addMentor(1, 0) = 0
                addMentor(6, 31) = 1
                mentor(0, 0) = 1
                mentor(1, 0) = 6
                mentor(0, 1) = 0
                mentor(1, 1) = 31
                mentor(1, 2) = 0
                addApprentice(0, -1) = 0
                mentor(1, 2) = 0              // one without a mentor is nobody's
                addApprentice(0, 1) = 1
                addApprentice(0, 1) = 2
                addApprentice(0, 1) = 3
                addApprentice(0, 1) = 4
                addApprentice(0, 1) = 5
                move(0, 1) = 0
                mentor(1, 2) = 6              // as many as the greatest ratio tells
                leave(5) = 1
                mentor(1, 2) = 5
                mentor(0, 2) = 0
                """);
        Sentences.holds(16, "3 pending entries of these that were logged with this mentor", TWENTY_ENTRIES + """
                addMentor(1, 1) = 1
                mentor(1, 3) = 0
                mentor(0, 3) = 20
                doubt(0) = 1
                mentor(0, 3) = 19
                leave(0) = 0
                mentor(0, 3) = 0              // no apprentice of it now
                move(0, 1) = 19
                mentor(0, 3) = 0
                mentor(1, 3) = 0              // not logged with this one
                """);
        Sentences.holds(16, "4 entries that it has confirmed, in all", TWENTY_ENTRIES + """
                addMentor(1, 1) = 1
                mentor(0, 4) = 0
                doubt(0) = 1
                settle(0, true) = 1
                mentor(0, 4) = 0              // what is accepted was not confirmed
                confirm(0, 18) = 18
                mentor(0, 4) = 18
                confirm(0, 18) = 1
                mentor(0, 4) = 19
                confirm(0, 18) = 0
                mentor(0, 4) = 19
                move(0, 1) = 0
                mentor(0, 4) = 19             // it stays when the apprentice goes
                mentor(1, 4) = 0
                """);
    }

    private static void argumentsOfApprentice() {
        Sentences.namesNoBoundary(17, "Returns a value of an apprentice.");
        Sentences.namesNoBoundary(17, "Returns that value.");
        Sentences.holds(17, "`apprentice`: number of an apprentice", TWO_OF_EACH + """
                apprentice(-1, 0) throws IndexOutOfBoundsException
                apprentice(2, 0) throws IndexOutOfBoundsException
                apprentice(0, 0) = 0
                apprentice(1, 0) = 1
                """);
        Sentences.holds(17, "Throws `IndexOutOfBoundsException` if there is no such apprentice", """
                apprentice(0, 0) throws IndexOutOfBoundsException       // there is none
                """ + ONE_OF_EACH + """
                apprentice(1, 0) throws IndexOutOfBoundsException
                apprentice(-2147483648, 11) throws IndexOutOfBoundsException
                apprentice(2147483647, 11) throws IndexOutOfBoundsException
                apprentice(0, 11) = 0
                """);
        Sentences.holds(17, "Throws `IllegalArgumentException` if what is out of range", ONE_OF_EACH + """
                apprentice(0, -1) throws IllegalArgumentException
                apprentice(0, 12) throws IllegalArgumentException
                apprentice(0, -2147483648) throws IllegalArgumentException
                apprentice(0, 2147483647) throws IllegalArgumentException
                apprentice(0, 0) = 0
                apprentice(0, 11) = 0
                """);
        Sentences.holds(17, "0 trade, 1 mentor (NONE without one)", """
                addTrade(1, 1, 1) = 0
                addTrade(1, 1, 1) = 1
                addTrade(1, 1, 1) = 2
                addTrade(1, 1, 1) = 3
                addTrade(1, 1, 1) = 4
                addMentor(1, 31) = 0
                addApprentice(0, -1) = 0
                addApprentice(4, 0) = 1
                apprentice(0, 0) = 0
                apprentice(1, 0) = 4
                apprentice(0, 1) = -1
                apprentice(1, 1) = 0
                leave(1) = 0
                apprentice(1, 1) = -1
                """);
    }

    private static void entriesOfApprentices() {
        Sentences.holds(17, "2 pending entries, 3 doubted entries", ONE_OF_EACH + """
                apprentice(0, 2) = 0
                apprentice(0, 3) = 0
                """);
        Sentences.holds(17, "2 pending entries, 3 doubted entries", TWENTY_ENTRIES + """
                apprentice(0, 2) = 20
                apprentice(0, 3) = 0
                doubt(0) = 1
                apprentice(0, 2) = 19
                apprentice(0, 3) = 1
                addMentor(1, 1) = 1
                move(0, 1) = 19
                apprentice(0, 2) = 0
                apprentice(0, 3) = 20
                """);
        Sentences.holds(17, "4 pending hours, 5 doubted hours, 6 refused hours", TWENTY_ENTRIES + """
                apprentice(0, 4) = 24
                apprentice(0, 5) = 0
                apprentice(0, 6) = 0
                addMentor(1, 1) = 1
                move(0, 1) = 20
                apprentice(0, 4) = 0
                apprentice(0, 5) = 24
                settle(0, false) = 1
                settle(0, false) = 1
                apprentice(0, 5) = 22
                apprentice(0, 6) = 2          // those of all refused entries
                settle(0, true) = 1
                apprentice(0, 6) = 2
                """);
        Sentences.holds(17, "4 pending hours, 5 doubted hours, 6 refused hours", ONE_OF_EACH + """
                apprentice(0, 4) = 0
                log(0, 0, 12) = 1
                apprentice(0, 4) = 12
                confirm(0, 1) = 1
                apprentice(0, 4) = 0          // what is done is pending no more
                """);
    }

    private static void daysOfApprentices() {
        Sentences.holds(17, "7 release days", ONE_OF_EACH + """
                apprentice(0, 7) = 0
                release(0, 0) = 1
                release(0, 199) = 2
                release(0, 199) = 2
                apprentice(0, 7) = 2
                """);
        Sentences.holds(17, "8 days on which work was logged", ONE_OF_EACH + """
                apprentice(0, 8) = 0
                log(0, 0, 1) = 1
                apprentice(0, 8) = 1
                log(0, 0, 11) = 2
                apprentice(0, 8) = 1          // a second time on the same day
                endDay() = 0
                apprentice(0, 8) = 1          // a day without work
                endDay() = 0
                log(0, 0, 1) = 3
                apprentice(0, 8) = 2
                confirm(0, 99) = 3
                apprentice(0, 8) = 2
                """);
        Sentences.holds(17, "8 days on which work was logged", ONE_OF_EACH + """
                log(0, 0, 1) = 1
                text "days 30;" = 8
                6 times runCommands() = 1
                text "days 19;" = 8
                runCommands() = 1
                log(0, 0, 1) = 1              // on day 199
                apprentice(0, 8) = 2
                endDay() = 0
                log(0, 0, 1) = 2              // on day 200, which no release reaches
                log(0, 0, 1) = 3
                apprentice(0, 8) = 3
                """);
        Sentences.holds(17, "9 hours logged on this day", ONE_OF_EACH + """
                apprentice(0, 9) = 0
                log(0, 0, 1) = 1
                log(0, 2, 11) = 2
                apprentice(0, 9) = 12
                confirm(0, 1) = 1
                doubt(0) = 11
                settle(0, false) = 11
                apprentice(0, 9) = 12         // whatever became of the entries
                endDay() = 0
                apprentice(0, 9) = 0
                """);
    }

    private static void movesOfApprentices() {
        Sentences.holds(17, "10 moves, exchanges too", TWO_OF_EACH + """
                apprentice(0, 10) = 0         // the first mentor is no move
                move(1, 1) = 0
                apprentice(1, 10) = 1
                leave(1) = 1
                apprentice(1, 10) = 1         // to leave is none
                addApprentice(0, 1) = 2
                exchange(0, 2) = 0
                apprentice(0, 10) = 1
                apprentice(2, 10) = 1
                exchange(0, 2) = 0
                apprentice(0, 10) = 2
                move(2, 1) throws IllegalStateException
                apprentice(2, 10) = 2
                """);
        Sentences.holds(17, "11 1 if it is complete or 0 if not", """
                addTrade(0, 0, 0) = 0
                addTrade(0, 1, 0) = 1
                addApprentice(0, -1) = 0
                addApprentice(1, -1) = 1
                apprentice(0, 11) = 1         // nothing is needed
                apprentice(1, 11) = 0
                credit(1, 1, 1) = 1
                apprentice(1, 11) = 1
                """);
    }

    private static void argumentsOfPart() {
        Sentences.namesNoBoundary(18, "Returns that value.");
        Sentences.holds(18, "`apprentice`: number of an apprentice", TWO_OF_EACH + """
                part(-1, 0, 0) throws IndexOutOfBoundsException
                part(2, 0, 0) throws IndexOutOfBoundsException
                part(0, 0, 0) = 40
                part(1, 0, 0) = 7
                """);
        Sentences.holds(18, "Throws `IndexOutOfBoundsException` if there is no such apprentice", """
                part(0, 0, 0) throws IndexOutOfBoundsException          // there is none
                """ + ONE_OF_EACH + """
                part(1, 0, 0) throws IndexOutOfBoundsException
                part(-2147483648, 2, 4) throws IndexOutOfBoundsException
                part(2147483647, 2, 4) throws IndexOutOfBoundsException
                part(0, 2, 4) = 0
                """);
        Sentences.holds(18, "`part`: 0 to 2", ONE_OF_EACH + """
                part(0, -1, 0) throws IllegalArgumentException
                part(0, 3, 0) throws IllegalArgumentException
                part(0, 0, 0) = 40
                part(0, 1, 0) = 30
                part(0, 2, 0) = 20
                """);
        Sentences.holds(18, "Throws `IllegalArgumentException` if part or what is out of range", ONE_OF_EACH + """
                part(0, -2147483648, 4) throws IllegalArgumentException
                part(0, 2147483647, 4) throws IllegalArgumentException
                part(0, 2, -1) throws IllegalArgumentException
                part(0, 2, 5) throws IllegalArgumentException
                part(0, 2, -2147483648) throws IllegalArgumentException
                part(0, 2, 2147483647) throws IllegalArgumentException
                part(0, 2, 0) = 20
                part(0, 2, 4) = 0
                """);
    }

    private static void valuesOfParts() {
        Sentences.holds(18, "0 hours that its trade needs, 1 done hours", """
                addTrade(2000, 0, 5) = 0
                addApprentice(0, -1) = 0
                part(0, 0, 0) = 2000
                part(0, 1, 0) = 0
                part(0, 1, 1) = 0
                credit(0, 1, 2147483647) = 2147483647
                part(0, 1, 1) = 2147483647
                part(0, 1, 0) = 0
                """);
        Sentences.holds(18, "2 missing hours: needed minus done, at least 0", """
                addTrade(2000, 0, 5) = 0
                addApprentice(0, -1) = 0
                part(0, 0, 2) = 2000
                part(0, 1, 2) = 0
                part(0, 2, 2) = 5
                credit(0, 2, 4) = 4
                part(0, 2, 2) = 1
                credit(0, 2, 1) = 5
                part(0, 2, 2) = 0
                credit(0, 2, 1) = 6
                part(0, 2, 2) = 0             // not below it
                credit(0, 2, 2147483641) = 2147483647
                part(0, 2, 2) = 0
                """);
        Sentences.holds(18, "3 pending hours, 4 doubted hours", TWENTY_ENTRIES + """
                part(0, 0, 3) = 18
                part(0, 1, 3) = 5
                part(0, 2, 3) = 1
                part(0, 0, 4) = 0
                doubt(0) = 1
                part(0, 0, 3) = 17
                part(0, 0, 4) = 1
                addMentor(1, 1) = 1
                move(0, 1) = 19
                part(0, 0, 3) = 0
                part(0, 1, 3) = 0
                part(0, 2, 3) = 0
                part(0, 0, 4) = 18
                part(0, 1, 4) = 5
                part(0, 2, 4) = 1
                """);
    }

    private static void completeApprentices() {
        for (int part = 0; part < 3; part++) {
            Sentences.holds(18, "(it is complete if no hours are missing in any part)", """
                    addTrade(3, 3, 3) = 0
                    addMentor(1, 1) = 0
                    addApprentice(0, 0) = 0
                    credit(0, 0, 3) = 3
                    credit(0, 1, 3) = 3
                    credit(0, 2, 3) = 3
                    apprentice(0, 11) = 1
                    credit(0, PART, -1) = 2
                    apprentice(0, 11) = 0     // one hour is missing in one part
                    log(0, PART, 1) = 1
                    apprentice(0, 11) = 0     // pending hours are not done
                    confirm(0, 1) = 1
                    apprentice(0, 11) = 1
                    credit(0, PART, 2147483644) = 2147483647
                    apprentice(0, 11) = 1
                    """.replace("PART", String.valueOf(part)));
        }
    }

    private static void argumentsOfEntry() {
        Sentences.namesNoBoundary(19, "Returns a value of an entry.");
        Sentences.holds(19, "`apprentice`: number of an apprentice", TWO_OF_EACH + """
                log(0, 0, 12) = 1
                entry(-1, false, 0, 1) throws IndexOutOfBoundsException
                entry(2, false, 0, 1) throws IndexOutOfBoundsException
                entry(0, false, 0, 1) = 12
                entry(1, false, 0, 1) = -1
                """);
        Sentences.holds(19, "Throws `IndexOutOfBoundsException` if there is no such apprentice", """
                entry(0, true, 0, 0) throws IndexOutOfBoundsException   // there is none
                """ + ONE_OF_EACH + """
                entry(1, true, 0, 0) throws IndexOutOfBoundsException
                entry(-2147483648, false, 0, 3) throws IndexOutOfBoundsException
                entry(2147483647, false, 0, 3) throws IndexOutOfBoundsException
                entry(0, false, 0, 3) = -1
                """);
        Sentences.holds(19, "`doubted`: whether doubted entries are meant, otherwise pending ones", ONE_OF_EACH + """
                log(0, 0, 12) = 1
                entry(0, true, 0, 1) = -1     // none is doubted
                entry(0, false, 0, 1) = 12
                doubt(0) = 12
                entry(0, true, 0, 1) = 12
                entry(0, false, 0, 1) = -1    // none is pending
                """);
        Sentences.holds(19, "Throws `IllegalArgumentException` if index is negative, or what is out of range",
                ONE_OF_EACH + """
                log(0, 2, 12) = 1
                entry(0, false, -1, 0) throws IllegalArgumentException
                entry(0, true, -1, 0) throws IllegalArgumentException
                entry(0, false, -2147483648, 3) throws IllegalArgumentException
                entry(0, false, 0, -1) throws IllegalArgumentException
                entry(0, false, 0, 4) throws IllegalArgumentException
                entry(0, true, 0, -2147483648) throws IllegalArgumentException
                entry(0, true, 0, 2147483647) throws IllegalArgumentException
                entry(0, false, 1, 4) throws IllegalArgumentException   // though there are not so many
                entry(0, false, 0, 0) = 2
                entry(0, false, 0, 3) = 0
                """);
        Sentences.holds(19, "`what`: 0 part, 1 hours, 2 day, 3 mentor", """
                addTrade(1, 1, 1) = 0
                addMentor(1, 0) = 0
                addMentor(2, 1) = 1
                addApprentice(0, 1) = 0
                log(0, 0, 1) = 1
                endDay() = 0
                log(0, 2, 12) = 2
                entry(0, false, 0, 0) = 0
                entry(0, false, 1, 0) = 2
                entry(0, false, 0, 1) = 1
                entry(0, false, 1, 1) = 12
                entry(0, false, 0, 2) = 0
                entry(0, false, 1, 2) = 1
                entry(0, false, 0, 3) = 1
                leave(0) = 1
                entry(0, false, 0, 3) = 1     // the mentor at that time
                """);
    }

    private static void lastEntries() {
        Sentences.holds(19, "`index`: 0 for the oldest one, and so on", TWENTY_ENTRIES + """
                entry(0, false, 0, 2) = 0
                entry(0, false, 10, 0) = 0
                entry(0, false, 11, 0) = 2
                entry(0, false, 11, 2) = 0
                entry(0, false, 12, 0) = 0
                entry(0, false, 12, 2) = 1
                entry(0, false, 19, 0) = 1
                entry(0, false, 19, 1) = 5
                doubt(0) = 1
                entry(0, false, 18, 1) = 5    // each is one nearer to the front
                entry(0, false, 10, 0) = 2
                entry(0, false, 19, 1) = -1
                entry(0, true, 0, 1) = 1
                """);
        Sentences.holds(19, "Returns that value; NONE if there are not so many.", TWENTY_ENTRIES + """
                entry(0, false, 19, 3) = 0
                entry(0, false, 20, 3) = -1
                entry(0, false, 2147483647, 3) = -1
                entry(0, true, 0, 3) = -1
                addMentor(1, 1) = 1
                move(0, 1) = 20
                entry(0, true, 19, 1) = 5
                entry(0, true, 19, 3) = 0
                entry(0, true, 20, 3) = -1
                entry(0, true, 2147483647, 0) = -1
                entry(0, false, 0, 0) = -1
                settle(0, true) = 1
                entry(0, true, 18, 1) = 5
                entry(0, true, 19, 1) = -1
                """);
    }

    private static void argumentsOfWhole() {
        Sentences.namesNoBoundary(20, "Returns a value of the whole.");
        Sentences.namesNoBoundary(20, "Returns that value.");
        Sentences.holds(20, "Throws `IllegalArgumentException` if what is out of range", """
                whole(-1) throws IllegalArgumentException
                whole(10) throws IllegalArgumentException
                whole(-2147483648) throws IllegalArgumentException
                whole(2147483647) throws IllegalArgumentException
                whole(0) = 0
                whole(9) = 0
                """);
    }

    private static void countsOfTheWhole() {
        Sentences.holds(20, "`what`: 0 trades, 1 mentors, 2 apprentices, 3 day", """
                whole(0) = 0
                whole(1) = 0
                whole(2) = 0
                whole(3) = 0
                text "trade 0 0 0;trade 0 0 0;trade 0 0 0;trade 0 0 0;trade 0 0 0;" = 60
                runCommands() = 5
                text "mentor 1 0;mentor 1 0;mentor 1 0;mentor 1 0;mentor 1 0;mentor 1 0;" = 66
                runCommands() = 6
                addApprentice(0, -1) = 0
                addApprentice(0, -1) = 1
                addApprentice(0, -1) = 2
                addApprentice(0, -1) = 3
                addApprentice(0, -1) = 4
                addApprentice(0, -1) = 5
                addApprentice(0, -1) = 6
                addApprentice(0, -1) = 7
                addApprentice(0, -1) = 8
                addApprentice(0, -1) = 9
                endDay() = 0
                whole(0) = 5
                whole(1) = 6
                whole(2) = 10
                whole(3) = 1
                whole(6) = 10
                whole(7) = 10
                """);
        Sentences.holds(20, "6 apprentices that are complete, 7 apprentices without a mentor", """
                addTrade(1, 0, 0) = 0
                addMentor(1, 1) = 0
                whole(6) = 0
                whole(7) = 0
                addApprentice(0, 0) = 0
                whole(6) = 0
                whole(7) = 0
                addApprentice(0, -1) = 1
                whole(7) = 1
                credit(0, 0, 1) = 1
                whole(6) = 1
                leave(0) = 0
                whole(7) = 2
                credit(1, 0, 1) = 1
                whole(6) = 2
                move(1, 0) = 0
                whole(7) = 1
                credit(0, 0, -1) = 0
                whole(6) = 1
                """);
        Sentences.holds(20, "9 length of the command text", """
                whole(9) = 0
                text "                                                                                                                                                     " = 149
                whole(9) = 149
                type(0) = 150
                whole(9) = 150
                type(0) throws IllegalStateException
                whole(9) = 150
                clearCommands() = 150
                whole(9) = 0
                """);
    }

    private static void sumsOfTheWhole() {
        Sentences.holds(20, "4 pending entries, 5 doubted entries", TWENTY_ENTRIES + """
                addApprentice(0, 0) = 1
                log(1, 0, 1) = 1
                log(1, 0, 1) = 2
                whole(4) = 22
                whole(5) = 0
                addMentor(1, 1) = 1
                move(0, 1) = 20
                whole(4) = 2
                whole(5) = 20
                doubt(1) = 1
                whole(4) = 1
                whole(5) = 21
                confirm(0, 1) = 1
                whole(4) = 0
                """);
        Sentences.holds(20, "8 hours that were refused, in all", """
                whole(8) = 0
                """ + TWO_OF_EACH + """
                move(1, 1) = 0
                log(0, 0, 12) = 1
                log(1, 0, 1) = 1
                doubt(0) = 12
                doubt(1) = 1
                whole(8) = 0
                settle(0, false) = 12
                whole(8) = 12
                settle(1, true) = 1
                whole(8) = 12
                undo() = 3
                settle(1, false) = 1
                whole(8) = 13                 // of all apprentices
                """);
    }
}
