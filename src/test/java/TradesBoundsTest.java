/** The boundaries that promises 1 to 5 name, sentence by sentence. */
public final class TradesBoundsTest {
    private static final String ONE_OF_EACH = """
            addTrade(40, 30, 20) = 0
            addMentor(6, 1) = 0
            addApprentice(0, 0) = 0
            """;

    public static void main(String[] arguments) {
        newObject();
        hoursOfTrades();
        numberOfTrades();
        argumentsOfMentors();
        numberOfMentors();
        argumentsOfApprentices();
        numberOfApprentices();
        argumentsOfReleases();
        numberOfReleases();
        releasesOfWorkedDays();
        Sentences.allQuoted(1, 5);
        Script.end();
    }

    private static void newObject() {
        Sentences.holds(1, "Creates an exchange without trades, mentors and apprentices", """
                whole(0) = 0
                whole(1) = 0
                whole(2) = 0
                addApprentice(0, -1) throws IndexOutOfBoundsException
                addTrade(1, 1, 1) = 0
                addApprentice(0, 0) throws IndexOutOfBoundsException    // there is no mentor yet
                mentor(0, 0) throws IndexOutOfBoundsException
                addMentor(1, 1) = 0
                mentor(0, 0) = 1
                apprentice(0, 0) throws IndexOutOfBoundsException
                addApprentice(0, 0) = 0
                apprentice(0, 0) = 0
                """);
        Sentences.holds(1, "at day 0", """
                whole(3) = 0
                endDay() = 0
                whole(3) = 1
                """);
        Sentences.holds(1, "with an empty command text", """
                whole(9) = 0
                clearCommands() = 0
                type(59) = 1
                whole(9) = 1
                """);
        Sentences.holds(1, "and an empty undo stack", """
                undo() throws IllegalStateException
                endDay() = 0
                undo() = 0
                undo() throws IllegalStateException
                """);
    }

    private static void hoursOfTrades() {
        Sentences.holds(2, "`first`: hours of part 0, 0 to 2000", """
                addTrade(-1, 5, 5) throws IllegalArgumentException
                addTrade(-2147483648, 5, 5) throws IllegalArgumentException
                addTrade(2001, 5, 5) throws IllegalArgumentException
                addTrade(2147483647, 5, 5) throws IllegalArgumentException
                addTrade(0, 5, 5) = 0
                addTrade(2000, 5, 5) = 1
                addApprentice(0, -1) = 0
                addApprentice(1, -1) = 1
                part(0, 0, 0) = 0
                part(1, 0, 0) = 2000
                """);
        Sentences.holds(2, "`second`: hours of part 1, 0 to 2000", """
                addTrade(5, -1, 5) throws IllegalArgumentException
                addTrade(5, -2147483648, 5) throws IllegalArgumentException
                addTrade(5, 2001, 5) throws IllegalArgumentException
                addTrade(5, 2147483647, 5) throws IllegalArgumentException
                addTrade(5, 0, 5) = 0
                addTrade(5, 2000, 5) = 1
                addApprentice(0, -1) = 0
                addApprentice(1, -1) = 1
                part(0, 1, 0) = 0
                part(1, 1, 0) = 2000
                """);
        Sentences.holds(2, "`third`: hours of part 2, 0 to 2000", """
                addTrade(5, 5, -1) throws IllegalArgumentException
                addTrade(5, 5, -2147483648) throws IllegalArgumentException
                addTrade(5, 5, 2001) throws IllegalArgumentException
                addTrade(5, 5, 2147483647) throws IllegalArgumentException
                addTrade(5, 5, 0) = 0
                addTrade(5, 5, 2000) = 1
                addApprentice(0, -1) = 0
                addApprentice(1, -1) = 1
                part(0, 2, 0) = 0
                part(1, 2, 0) = 2000
                """);
        Sentences.holds(2, "Throws `IllegalArgumentException` if an argument is out of range", """
                addTrade(-1, 0, 2000) throws IllegalArgumentException
                addTrade(0, 2001, 2000) throws IllegalArgumentException
                addTrade(2000, 0, -1) throws IllegalArgumentException
                addTrade(-1, -1, -1) throws IllegalArgumentException
                addTrade(2001, 2001, 2001) throws IllegalArgumentException
                whole(0) = 0
                addTrade(0, 0, 0) = 0
                addTrade(2000, 2000, 2000) = 1
                """);
    }

    private static void numberOfTrades() {
        Sentences.holds(2, "Adds a trade. Undoable.", """
                addTrade(0, 2001, 0) throws IllegalArgumentException
                undo() throws IllegalStateException
                addTrade(1, 2, 3) = 0
                whole(0) = 1
                undo() = 0
                whole(0) = 0
                addApprentice(0, -1) throws IndexOutOfBoundsException
                """);
        Sentences.holds(2, "Returns the number of the trade.", """
                addTrade(1, 1, 1) = 0
                addTrade(1, 1, 1) = 1
                undo() = 1
                addTrade(2, 2, 2) = 1
                addTrade(1, 1, 1) = 2
                addTrade(1, 1, 1) = 3
                addTrade(1, 1, 1) = 4
                """);
        Sentences.holds(2, "Throws `IllegalStateException` if there are 5 trades", """
                addTrade(1, 1, 1) = 0
                addTrade(1, 1, 1) = 1
                addTrade(1, 1, 1) = 2
                addTrade(1, 1, 1) = 3
                addTrade(9, 8, 7) = 4         // there were 4
                addTrade(1, 1, 1) throws IllegalStateException
                whole(0) = 5
                undo() = 3
                addTrade(1, 1, 1) = 4
                addTrade(1, 1, 1) throws IllegalStateException
                """);
    }

    private static void argumentsOfMentors() {
        Sentences.holds(3, "`ratio`: 1 to 6", """
                addMentor(0, 1) throws IllegalArgumentException
                addMentor(-1, 1) throws IllegalArgumentException
                addMentor(-2147483648, 1) throws IllegalArgumentException
                addMentor(7, 1) throws IllegalArgumentException
                addMentor(2147483647, 1) throws IllegalArgumentException
                addMentor(1, 1) = 0
                addMentor(6, 1) = 1
                mentor(0, 0) = 1
                mentor(1, 0) = 6
                """);
        Sentences.holds(3, "`trades`: 0 to 31", """
                addMentor(1, -1) throws IllegalArgumentException
                addMentor(1, -2147483648) throws IllegalArgumentException
                addMentor(1, 32) throws IllegalArgumentException
                addMentor(1, 2147483647) throws IllegalArgumentException
                addMentor(1, 0) = 0
                addMentor(1, 31) = 1
                mentor(0, 1) = 0
                mentor(1, 1) = 31
                """);
        Sentences.holds(3, "a set of trades, also of such as do not exist yet", """
                addMentor(1, 1) = 0
                addMentor(1, 16) = 1          // there is no trade at all
                addApprentice(4, 1) throws IndexOutOfBoundsException
                addTrade(1, 1, 1) = 0
                addTrade(1, 1, 1) = 1
                addTrade(1, 1, 1) = 2
                addTrade(1, 1, 1) = 3
                addTrade(1, 1, 1) = 4
                addApprentice(3, 1) throws IllegalStateException
                addApprentice(4, 0) throws IllegalStateException
                addApprentice(4, 1) = 0
                addApprentice(0, 0) = 1
                """);
        Sentences.holds(3, "Throws `IllegalArgumentException` if an argument is out of range", """
                addMentor(0, 31) throws IllegalArgumentException
                addMentor(6, 32) throws IllegalArgumentException
                addMentor(7, -1) throws IllegalArgumentException
                whole(1) = 0
                addMentor(1, 0) = 0
                addMentor(6, 31) = 1
                """);
    }

    private static void numberOfMentors() {
        Sentences.holds(3, "Adds a mentor. Undoable.", """
                addMentor(7, 0) throws IllegalArgumentException
                undo() throws IllegalStateException
                addMentor(1, 2) = 0
                whole(1) = 1
                undo() = 0
                whole(1) = 0
                mentor(0, 0) throws IndexOutOfBoundsException
                """);
        Sentences.holds(3, "Returns the number of the mentor.", """
                addMentor(1, 1) = 0
                addMentor(1, 1) = 1
                undo() = 1
                addMentor(2, 2) = 1
                addMentor(1, 1) = 2
                addMentor(1, 1) = 3
                addMentor(1, 1) = 4
                addMentor(1, 1) = 5
                """);
        Sentences.holds(3, "Throws `IllegalStateException` if there are 6 mentors", """
                addMentor(1, 1) = 0
                addMentor(1, 1) = 1
                addMentor(1, 1) = 2
                addMentor(1, 1) = 3
                addMentor(1, 1) = 4
                addMentor(4, 3) = 5           // there were 5
                addMentor(1, 1) throws IllegalStateException
                whole(1) = 6
                mentor(5, 0) = 4
                undo() = 3
                addMentor(5, 3) = 5
                mentor(5, 0) = 5
                addMentor(1, 1) throws IllegalStateException
                """);
    }

    private static void argumentsOfApprentices() {
        String twoOfEach = """
                addTrade(1, 1, 1) = 0
                addTrade(1, 1, 1) = 1
                addMentor(3, 3) = 0
                addMentor(3, 3) = 1
                """;
        Sentences.holds(4, "`trade`: number of a trade", twoOfEach + """
                addApprentice(-1, -1) throws IndexOutOfBoundsException
                addApprentice(-2147483648, -1) throws IndexOutOfBoundsException
                addApprentice(2, -1) throws IndexOutOfBoundsException
                addApprentice(2147483647, -1) throws IndexOutOfBoundsException
                addApprentice(0, -1) = 0
                addApprentice(1, -1) = 1
                apprentice(0, 0) = 0
                apprentice(1, 0) = 1
                """);
        Sentences.holds(4, "`mentor`: number of a mentor, or NONE", twoOfEach + """
                addApprentice(0, -2) throws IndexOutOfBoundsException
                addApprentice(0, -2147483648) throws IndexOutOfBoundsException
                addApprentice(0, 2) throws IndexOutOfBoundsException
                addApprentice(0, 2147483647) throws IndexOutOfBoundsException
                addApprentice(0, -1) = 0
                addApprentice(0, 0) = 1
                addApprentice(0, 1) = 2
                apprentice(0, 1) = -1
                apprentice(1, 1) = 0
                apprentice(2, 1) = 1
                """);
        Sentences.holds(4, "Throws `IndexOutOfBoundsException` if there is no such trade, or mentor is neither NONE nor a mentor",
                """
                addApprentice(0, -1) throws IndexOutOfBoundsException   // no trade is there
                """ + twoOfEach + """
                addApprentice(2, 1) throws IndexOutOfBoundsException
                addApprentice(1, 2) throws IndexOutOfBoundsException
                addApprentice(-1, -2) throws IndexOutOfBoundsException
                whole(2) = 0
                addApprentice(1, 1) = 0
                addApprentice(1, -1) = 1
                """);
        Sentences.holds(4, "or the mentor does not teach the trade", twoOfEach + """
                addMentor(6, 1) = 2
                addMentor(6, 2) = 3
                addMentor(6, 0) = 4
                addMentor(6, 28) = 5          // the trades 2 to 4 alone, which are not there
                addApprentice(1, 2) throws IllegalStateException
                addApprentice(0, 3) throws IllegalStateException
                addApprentice(0, 4) throws IllegalStateException
                addApprentice(1, 4) throws IllegalStateException
                addApprentice(1, 5) throws IllegalStateException
                addApprentice(0, 2) = 0
                addApprentice(1, 3) = 1
                """);
        Sentences.holds(4, "or has as many apprentices as its ratio tells", twoOfEach + """
                addMentor(1, 1) = 2
                addApprentice(0, 2) = 0
                addApprentice(0, 2) throws IllegalStateException        // one of one
                addApprentice(0, 0) = 1
                addApprentice(0, 0) = 2
                addApprentice(0, 0) = 3       // it had two of three
                addApprentice(0, 0) throws IllegalStateException
                addApprentice(0, -1) = 4      // none is no mentor that could have too many
                leave(2) = 0
                addApprentice(0, 0) = 5
                addApprentice(0, 0) throws IllegalStateException
                """);
    }

    private static void numberOfApprentices() {
        Sentences.holds(4, "Adds an apprentice. Undoable.", """
                addTrade(1, 1, 1) = 0
                addApprentice(1, -1) throws IndexOutOfBoundsException
                undo() = 0
                addTrade(1, 1, 1) = 0
                addApprentice(0, -1) = 0
                undo() = 1
                whole(2) = 0
                whole(7) = 0
                apprentice(0, 0) throws IndexOutOfBoundsException
                """);
        Sentences.holds(4, "Returns the number of the apprentice.", """
                addTrade(1, 1, 1) = 0
                addApprentice(0, -1) = 0
                addApprentice(0, -1) = 1
                undo() = 2
                addApprentice(0, -1) = 1
                addApprentice(0, -1) = 2
                addApprentice(0, -1) = 3
                addApprentice(0, -1) = 4
                addApprentice(0, -1) = 5
                addApprentice(0, -1) = 6
                addApprentice(0, -1) = 7
                addApprentice(0, -1) = 8
                addApprentice(0, -1) = 9
                """);
        Sentences.holds(4, "Throws `IllegalStateException` if there are 10 apprentices", """
                addTrade(1, 1, 1) = 0
                addMentor(6, 1) = 0
                addApprentice(0, -1) = 0
                addApprentice(0, -1) = 1
                addApprentice(0, -1) = 2
                addApprentice(0, -1) = 3
                addApprentice(0, -1) = 4
                addApprentice(0, -1) = 5
                addApprentice(0, -1) = 6
                addApprentice(0, -1) = 7
                addApprentice(0, -1) = 8
                addApprentice(0, 0) = 9       // there were 9
                addApprentice(0, -1) throws IllegalStateException
                addApprentice(0, 0) throws IllegalStateException
                whole(2) = 10
                apprentice(9, 1) = 0
                undo() = 3
                whole(2) = 9
                addApprentice(0, -1) = 9
                addApprentice(0, -1) throws IllegalStateException
                """);
    }

    private static void argumentsOfReleases() {
        Sentences.holds(5, "`apprentice`: number of an apprentice", """
                release(0, 5) throws IndexOutOfBoundsException          // there is none
                """ + ONE_OF_EACH + """
                addApprentice(0, -1) = 1
                release(-1, 5) throws IndexOutOfBoundsException
                release(2, 5) throws IndexOutOfBoundsException
                release(0, 5) = 1
                release(1, 5) = 1
                """);
        Sentences.holds(5, "Throws `IndexOutOfBoundsException` if there is no such apprentice", ONE_OF_EACH + """
                release(1, 0) throws IndexOutOfBoundsException
                release(10, 0) throws IndexOutOfBoundsException
                release(-2147483648, 0) throws IndexOutOfBoundsException
                release(2147483647, 0) throws IndexOutOfBoundsException
                release(0, 0) = 1
                """);
        Sentences.holds(5, "`day`: 0 to 199", ONE_OF_EACH + """
                release(0, -1) throws IllegalArgumentException
                release(0, 200) throws IllegalArgumentException
                release(0, 0) = 1
                release(0, 199) = 2
                nextRelease(0, 0) = 0
                nextRelease(0, 1) = 199
                """);
        Sentences.holds(5, "Throws `IllegalArgumentException` if day is out of range", ONE_OF_EACH + """
                release(0, -2147483648) throws IllegalArgumentException
                release(0, 2147483647) throws IllegalArgumentException
                release(0, 200) throws IllegalArgumentException
                release(0, -1) throws IllegalArgumentException
                apprentice(0, 7) = 0
                release(0, 199) = 1
                release(0, 0) = 2
                """);
    }

    private static void numberOfReleases() {
        Sentences.holds(5, "Adds a release day. Undoable.", ONE_OF_EACH + """
                release(0, 200) throws IllegalArgumentException
                release(0, 9) = 1
                undo() = 3
                apprentice(0, 7) = 0
                nextRelease(0, 0) = -1
                release(0, 9) = 1
                release(0, 9) = 1             // nothing changes, and a state is saved
                undo() = 3
                apprentice(0, 7) = 1
                undo() = 2
                apprentice(0, 7) = 0
                """);
        String title = Sentences.quote(5, "Returns the number of its release days then.");
        TradeLogs logs = Script.run(title, ONE_OF_EACH);
        for (int day = 199; day >= 0; day--) {
            Script.check(title + ": day " + day, logs.release(0, day), 200 - day);
        }
        Script.more(logs, title, """
                release(0, 0) = 200           // every day is one
                release(0, 100) = 200
                release(0, 199) = 200
                apprentice(0, 7) = 200
                nextRelease(0, 199) = 199
                nextRelease(0, 200) = -1
                undo() = 3
                undo() = 2
                undo() = 1
                apprentice(0, 7) = 200
                undo() = 0
                apprentice(0, 7) = 199
                """);
    }

    private static void releasesOfWorkedDays() {
        String sentence = "Throws `IllegalStateException` if work was logged by the apprentice on the day that is told";
        Sentences.holds(5, sentence, ONE_OF_EACH + """
                addApprentice(0, 0) = 1
                endDay() = 0
                log(0, 0, 1) = 1
                release(0, 1) throws IllegalStateException
                release(0, 0) = 1             // the day before, which is over
                release(0, 2) = 2
                release(1, 1) = 1             // another one has not worked
                confirm(0, 1) = 1
                release(0, 1) throws IllegalStateException              // confirmed by now
                undo() = 3
                doubt(0) = 1
                settle(0, false) = 1
                endDay() = 0
                release(0, 1) throws IllegalStateException              // refused by now
                """);
        Sentences.holds(5, sentence, ONE_OF_EACH + """
                log(0, 0, 1) = 1
                release(0, 0) throws IllegalStateException
                undo() = 3
                release(0, 0) = 1             // the work was not logged
                """);
        Sentences.holds(5, sentence, ONE_OF_EACH + """
                text "days 30;" = 8
                6 times runCommands() = 1
                text "days 18;" = 8
                runCommands() = 1
                log(0, 0, 1) = 1
                endDay() = 0
                whole(3) = 199
                release(0, 199) = 1
                undo() = 3
                log(0, 0, 1) = 2
                endDay() = 0
                log(0, 0, 1) = 3              // on day 200, which no release reaches
                release(0, 198) throws IllegalStateException
                release(0, 199) throws IllegalStateException
                release(0, 200) throws IllegalArgumentException
                release(0, 197) = 1
                """);
    }
}
