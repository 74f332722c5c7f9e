/** The boundaries that promises 21 to 24 name, sentence by sentence. */
public final class WhatIfBoundsTest {
    private static final String ONE_OF_EACH = """
            addTrade(24, 0, 0) = 0
            addMentor(6, 1) = 0
            addApprentice(0, 0) = 0
            """;

    public static void main(String[] arguments) {
        argumentsOfCompleteOn();
        daysThatCount();
        hoursThatCount();
        partsThatAreFilled();
        twoThousandDays();
        twoThousandDaysAtTheEnd();
        argumentsOfBestMentor();
        leastBusyMentors();
        argumentsOfDoubtsBy();
        answersOfDoubtsBy();
        argumentsOfNextRelease();
        answersOfNextRelease();
        Sentences.allQuoted(21, 24);
        Script.end();
    }

    private static void argumentsOfCompleteOn() {
        Sentences.holds(21, "`apprentice`: number of an apprentice", ONE_OF_EACH + """
                addApprentice(0, -1) = 1
                completeOn(-1, 12) throws IndexOutOfBoundsException
                completeOn(2, 12) throws IndexOutOfBoundsException
                completeOn(0, 12) = 1
                completeOn(1, 12) = 1
                """);
        Sentences.holds(21, "Throws `IndexOutOfBoundsException` if there is no such apprentice", """
                completeOn(0, 1) throws IndexOutOfBoundsException       // there is none
                """ + ONE_OF_EACH + """
                completeOn(1, 1) throws IndexOutOfBoundsException
                completeOn(-2147483648, 1) throws IndexOutOfBoundsException
                completeOn(2147483647, 1) throws IndexOutOfBoundsException
                completeOn(0, 1) = 23
                """);
        Sentences.holds(21, "`hours`: 1 to 12", ONE_OF_EACH + """
                completeOn(0, 0) throws IllegalArgumentException
                completeOn(0, 13) throws IllegalArgumentException
                completeOn(0, 1) = 23
                completeOn(0, 12) = 1
                """);
        Sentences.holds(21, "Throws `IllegalArgumentException` if hours is out of range", ONE_OF_EACH + """
                completeOn(0, -1) throws IllegalArgumentException
                completeOn(0, -2147483648) throws IllegalArgumentException
                completeOn(0, 2147483647) throws IllegalArgumentException
                credit(0, 0, 24) = 24
                completeOn(0, 0) throws IllegalArgumentException        // though it is complete
                completeOn(0, 13) throws IllegalArgumentException
                completeOn(0, 1) = 0
                """);
    }

    private static void daysThatCount() {
        Sentences.holds(21, "on each day from this one on that is no release day of it", ONE_OF_EACH + """
                addApprentice(0, 0) = 1
                release(1, 1) = 1             // of another one
                completeOn(0, 12) = 1
                release(0, 2) = 1             // the day behind
                completeOn(0, 12) = 1
                release(0, 1) = 2             // the last day that is needed
                completeOn(0, 12) = 3
                release(0, 0) = 3             // this day
                completeOn(0, 12) = 4
                endDay() = 0
                completeOn(0, 12) = 4         // day 0 is over
                endDay() = 0
                endDay() = 0
                completeOn(0, 12) = 4         // days 3 and 4
                endDay() = 0
                completeOn(0, 12) = 5
                """);
        Sentences.holds(21, "on each day from this one on that is no release day of it", ONE_OF_EACH + """
                text "days 30;" = 8
                6 times runCommands() = 1
                text "days 18;" = 8
                runCommands() = 1
                whole(3) = 198
                completeOn(0, 12) = 199
                completeOn(0, 11) = 200
                release(0, 199) = 1
                completeOn(0, 12) = 200       // no release day is as late
                completeOn(0, 11) = 201
                """);
        Sentences.holds(21, "(whether it has a mentor or not, and whatever it has logged on this day)", ONE_OF_EACH + """
                completeOn(0, 12) = 1
                leave(0) = 0
                completeOn(0, 12) = 1         // without a mentor
                move(0, 0) = 0
                log(0, 1, 12) = 1             // in a part in which no hours are missing
                completeOn(0, 12) = 1         // twelve hours on this day all the same
                log(0, 0, 1) throws IllegalStateException
                """);
    }

    private static void hoursThatCount() {
        Sentences.holds(21, "and all its hours, also those that are pending now, were confirmed at once", ONE_OF_EACH + """
                log(0, 0, 12) = 1
                completeOn(0, 12) = 0         // twelve hours more on this day
                completeOn(0, 11) = 1
                leave(0) = 0
                completeOn(0, 12) = 0         // pending ones count without a mentor, too
                move(0, 0) = 0
                endDay() = 0
                log(0, 0, 11) = 2
                completeOn(0, 1) = 1
                confirm(0, 1) = 1
                completeOn(0, 1) = 1
                """);
        Sentences.holds(21, "but not those that are doubted", ONE_OF_EACH + """
                log(0, 0, 12) = 1
                completeOn(0, 12) = 0
                doubt(0) = 12
                completeOn(0, 12) = 1
                settle(0, true) = 12
                completeOn(0, 12) = 0
                undo() = 3
                settle(0, false) = 12
                completeOn(0, 12) = 1
                """);
        Sentences.holds(21, "Returns the day; this day if it is complete by its pending entries already", ONE_OF_EACH + """
                endDay() = 0
                credit(0, 0, 12) = 12
                log(0, 0, 11) = 1
                completeOn(0, 12) = 1         // one hour is missing: this day all the same
                release(0, 2) = 1
                log(0, 0, 1) = 2
                apprentice(0, 11) = 0
                completeOn(0, 1) = 1          // none is missing
                endDay() = 0
                completeOn(0, 1) = 2          // on a release day
                undo() = 3
                undo() = 2
                completeOn(0, 1) = 1
                """);
        Sentences.holds(21, "this day if it is complete by its pending entries already", """
                addTrade(0, 0, 0) = 0
                addTrade(0, 0, 1) = 1
                addApprentice(0, -1) = 0
                addApprentice(1, -1) = 1
                release(0, 0) = 1
                release(1, 0) = 1
                completeOn(0, 1) = 0          // nothing is needed: complete on a release day
                completeOn(1, 12) = 1         // one hour is missing, and this is a release day
                credit(1, 2, 2147483647) = 2147483647
                completeOn(1, 1) = 0
                """);
    }

    private static void partsThatAreFilled() {
        String sentence = "the hours of a day go into the part with the lowest number in which hours are missing,"
                + " and what is too much for it into the next one, and so on.";
        Sentences.holds(21, sentence, """
                addTrade(4, 4, 4) = 0
                addTrade(4, 4, 5) = 1
                addTrade(1, 0, 1) = 2
                addApprentice(0, -1) = 0
                addApprentice(1, -1) = 1
                addApprentice(2, -1) = 2
                completeOn(0, 12) = 0         // one day fills all three
                completeOn(0, 11) = 1
                completeOn(1, 12) = 1
                completeOn(2, 2) = 0          // over a part in which nothing is missing
                completeOn(2, 1) = 1
                completeOn(0, 5) = 2          // 4 + 1, 3 + 2, 2 of 5
                completeOn(0, 6) = 1          // 4 + 2, 2 + 4
                completeOn(1, 6) = 2
                """);
        Sentences.holds(21, sentence, """
                addTrade(4, 4, 4) = 0
                addMentor(1, 1) = 0
                addApprentice(0, 0) = 0
                log(0, 0, 12) = 1             // what is too much when it is logged goes nowhere
                completeOn(0, 8) = 0
                completeOn(0, 7) = 1
                credit(0, 1, 2147483647) = 2147483647
                completeOn(0, 4) = 0
                completeOn(0, 3) = 1
                endDay() = 0
                log(0, 2, 3) = 2
                completeOn(0, 1) = 1
                """);
    }

    private static void twoThousandDays() {
        String sentence = "NONE if it would not be on one of 2000 days, this one the first of them.";
        Sentences.holds(21, sentence, """
                addTrade(2000, 0, 0) = 0
                addTrade(2000, 0, 1) = 1
                addTrade(2000, 2000, 2000) = 2
                addMentor(1, 31) = 0
                addApprentice(0, -1) = 0
                addApprentice(1, 0) = 1
                addApprentice(2, -1) = 2
                completeOn(0, 1) = 1999       // the last of the 2000 days
                completeOn(1, 1) = -1
                completeOn(2, 3) = 1999
                completeOn(2, 2) = -1
                log(1, 0, 1) = 1
                completeOn(1, 1) = 1999
                doubt(1) = 1
                completeOn(1, 1) = -1
                release(0, 199) = 1           // one day fewer
                completeOn(0, 1) = -1
                credit(0, 0, 1) = 1
                completeOn(0, 1) = 1999
                endDay() = 0
                completeOn(0, 1) = 2000       // from this day on
                completeOn(1, 1) = -1
                """);
        String title = Sentences.quote(21, sentence);
        TradeLogs logs = Script.run(title, """
                addTrade(1800, 0, 0) = 0
                addApprentice(0, -1) = 0
                """);
        for (int day = 0; day < 200; day++) {
            logs.release(0, day);
        }
        Script.more(logs, title + ", with all 200 release days", """
                completeOn(0, 1) = 1999       // days 200 to 1999
                completeOn(0, 12) = 349
                credit(0, 0, 1799) = 1799
                completeOn(0, 1) = 200
                undo() = 3
                endDay() = 0
                completeOn(0, 1) = 1999       // day 2000 is one of them now, and not needed
                addTrade(1801, 0, 0) = 1
                addApprentice(1, -1) = 1
                completeOn(1, 1) = 1801
                """);
    }

    private static void twoThousandDaysAtTheEnd() {
        Sentences.holds(21, "one of 2000 days, this one the first of them.", """
                addTrade(2000, 0, 0) = 0
                addTrade(2000, 1, 0) = 1
                addApprentice(0, -1) = 0
                addApprentice(1, -1) = 1
                text "days 30;" = 8
                333 times runCommands() = 1
                text "days 9;" = 7
                runCommands() = 1
                whole(3) = 9999
                completeOn(0, 1) = 11998      // the document tells no last day here
                completeOn(1, 1) = -1
                credit(0, 0, 1999) = 1999
                completeOn(0, 1) = 9999
                """);
    }

    private static void argumentsOfBestMentor() {
        Sentences.holds(22, "`apprentice`: number of an apprentice", ONE_OF_EACH + """
                addApprentice(0, -1) = 1
                bestMentor(-1) throws IndexOutOfBoundsException
                bestMentor(2) throws IndexOutOfBoundsException
                bestMentor(0) = -1
                bestMentor(1) = 0
                """);
        Sentences.holds(22, "Throws `IndexOutOfBoundsException` if there is no such apprentice", """
                bestMentor(0) throws IndexOutOfBoundsException          // there is none
                """ + ONE_OF_EACH + """
                bestMentor(1) throws IndexOutOfBoundsException
                bestMentor(-2147483648) throws IndexOutOfBoundsException
                bestMentor(2147483647) throws IndexOutOfBoundsException
                bestMentor(0) = -1
                """);
    }

    private static void leastBusyMentors() {
        Sentences.holds(22, "(apprentices + 1) / ratio as a fraction is the least.", """
                addTrade(1, 1, 1) = 0
                addMentor(4, 1) = 0
                addMentor(5, 1) = 1
                addMentor(6, 1) = 2
                addApprentice(0, -1) = 0
                bestMentor(0) = 2             // 1/6
                addApprentice(0, 2) = 1
                bestMentor(0) = 1             // 1/5
                addApprentice(0, 1) = 2
                bestMentor(0) = 0             // 1/4
                addApprentice(0, 0) = 3
                bestMentor(0) = 2             // 2/6
                addApprentice(0, 2) = 4
                bestMentor(0) = 1             // 2/5
                addApprentice(0, 1) = 5
                bestMentor(0) = 0             // 2/4, as 3/6
                bestMentor(3) = 2             // it has mentor 0 already
                """);
        Sentences.holds(22, "Returns the mentor, of several the lowest one", """
                addTrade(1, 1, 1) = 0
                addMentor(1, 2) = 0
                addMentor(2, 1) = 1
                addMentor(4, 1) = 2
                addMentor(2, 1) = 3
                addApprentice(0, -1) = 0
                addApprentice(0, 2) = 1
                bestMentor(0) = 1             // 1/2, 2/4 and 1/2
                bestMentor(1) = 1             // 1/2 and 1/2
                move(0, 1) = 0
                bestMentor(1) = 3             // 2/2 and 1/2
                bestMentor(0) = 2             // 2/4 and 1/2
                """);
        Sentences.holds(22, "NONE if it can be moved to none.", """
                addTrade(1, 1, 1) = 0
                addTrade(1, 1, 1) = 1
                addApprentice(0, -1) = 0
                bestMentor(0) = -1            // there is no mentor
                addMentor(6, 30) = 0
                bestMentor(0) = -1            // it does not teach the trade
                addMentor(1, 1) = 1
                bestMentor(0) = 1
                addApprentice(0, 1) = 1
                bestMentor(0) = -1            // it is full
                bestMentor(1) = -1            // it is its own
                leave(1) = 1
                bestMentor(0) = 1
                bestMentor(1) = 1
                """);
    }

    private static void argumentsOfDoubtsBy() {
        Sentences.namesNoBoundary(23, "Tells how many entries would become doubted if two apprentices were exchanged.");
        String pair = ONE_OF_EACH + """
                addMentor(1, 1) = 1
                addApprentice(0, 1) = 1
                """;
        Sentences.holds(23, "`a`: number of an apprentice", pair + """
                doubtsBy(-1, 1) throws IndexOutOfBoundsException
                doubtsBy(2, 1) throws IndexOutOfBoundsException
                doubtsBy(0, 1) = 0
                doubtsBy(1, 0) = 0
                """);
        Sentences.holds(23, "`b`: number of another apprentice", pair + """
                doubtsBy(1, -1) throws IndexOutOfBoundsException
                doubtsBy(1, 2) throws IndexOutOfBoundsException
                doubtsBy(1, 0) = 0
                doubtsBy(0, 1) = 0
                doubtsBy(1, 1) = -1           // no other one
                """);
        Sentences.holds(23, "Throws `IndexOutOfBoundsException` if there is no such apprentice", """
                doubtsBy(0, 0) throws IndexOutOfBoundsException         // there is none
                """ + pair + """
                doubtsBy(2, 2) throws IndexOutOfBoundsException         // not NONE for the same
                doubtsBy(-2147483648, 0) throws IndexOutOfBoundsException
                doubtsBy(0, 2147483647) throws IndexOutOfBoundsException
                doubtsBy(0, 1) = 0
                """);
    }

    private static void answersOfDoubtsBy() {
        Sentences.holds(23, "Returns the number", ONE_OF_EACH + """
                addMentor(1, 1) = 1
                addApprentice(0, 1) = 1
                doubtsBy(0, 1) = 0
                text "log 0 0 1;log 1 2 1;" = 20
                12 times runCommands() = 2
                endDay() = 0
                8 times runCommands() = 2
                whole(4) = 40
                doubtsBy(0, 1) = 40
                doubtsBy(1, 0) = 40
                doubt(0) = 1
                doubtsBy(0, 1) = 39           // what is doubted does not become so
                exchange(0, 1) = 39
                doubtsBy(0, 1) = 0
                """);
        Sentences.holds(23, "NONE if they cannot be exchanged, or one has no mentor, or both are the same.", """
                addTrade(1, 1, 1) = 0
                addTrade(1, 1, 1) = 1
                addMentor(2, 1) = 0
                addMentor(2, 3) = 1
                addApprentice(0, 0) = 0
                addApprentice(0, 0) = 1
                addApprentice(1, 1) = 2
                addApprentice(0, 1) = 3
                addApprentice(0, -1) = 4
                addApprentice(0, -1) = 5
                log(0, 0, 1) = 1
                doubtsBy(0, 1) = -1           // they have the same mentor
                doubtsBy(0, 2) = -1           // mentor 0 does not teach trade 1
                doubtsBy(2, 0) = -1
                doubtsBy(0, 4) = -1           // one has none
                doubtsBy(4, 0) = -1
                doubtsBy(4, 5) = -1           // neither has one
                doubtsBy(0, 0) = -1           // the same
                doubtsBy(4, 4) = -1
                doubtsBy(0, 3) = 1            // both mentors are full
                doubtsBy(1, 3) = 0
                """);
    }

    private static void argumentsOfNextRelease() {
        Sentences.namesNoBoundary(24, "Returns the next release day of an apprentice.");
        Sentences.holds(24, "`apprentice`: number of an apprentice", ONE_OF_EACH + """
                addApprentice(0, -1) = 1
                nextRelease(-1, 0) throws IndexOutOfBoundsException
                nextRelease(2, 0) throws IndexOutOfBoundsException
                release(1, 3) = 1
                nextRelease(0, 0) = -1
                nextRelease(1, 0) = 3
                """);
        Sentences.holds(24, "Throws `IndexOutOfBoundsException` if there is no such apprentice", """
                nextRelease(0, 0) throws IndexOutOfBoundsException      // there is none
                """ + ONE_OF_EACH + """
                nextRelease(1, 0) throws IndexOutOfBoundsException
                nextRelease(-2147483648, 0) throws IndexOutOfBoundsException
                nextRelease(2147483647, 0) throws IndexOutOfBoundsException
                nextRelease(0, 0) = -1
                """);
        Sentences.holds(24, "`day`: 0 to 9999", ONE_OF_EACH + """
                release(0, 199) = 1
                nextRelease(0, -1) throws IllegalArgumentException
                nextRelease(0, 10000) throws IllegalArgumentException
                nextRelease(0, 0) = 199
                nextRelease(0, 9999) = -1
                """);
        Sentences.holds(24, "Throws `IllegalArgumentException` if day is out of range", ONE_OF_EACH + """
                nextRelease(0, -2147483648) throws IllegalArgumentException
                nextRelease(0, 2147483647) throws IllegalArgumentException
                nextRelease(0, -1) throws IllegalArgumentException
                nextRelease(0, 10000) throws IllegalArgumentException
                nextRelease(0, 9999) = -1
                nextRelease(0, 0) = -1
                """);
    }

    private static void answersOfNextRelease() {
        Sentences.holds(24, "Returns the first release day that is day or later; NONE if there is none.", ONE_OF_EACH + """
                nextRelease(0, 0) = -1        // there is none at all
                release(0, 64) = 1
                release(0, 63) = 2
                release(0, 0) = 3
                nextRelease(0, 0) = 0
                nextRelease(0, 1) = 63
                nextRelease(0, 62) = 63
                nextRelease(0, 63) = 63
                nextRelease(0, 64) = 64
                nextRelease(0, 65) = -1       // none is left
                release(0, 199) = 4
                release(0, 127) = 5
                release(0, 128) = 6
                release(0, 191) = 7
                release(0, 192) = 8
                nextRelease(0, 65) = 127
                nextRelease(0, 128) = 128
                nextRelease(0, 129) = 191
                nextRelease(0, 192) = 192
                nextRelease(0, 193) = 199
                nextRelease(0, 199) = 199
                nextRelease(0, 200) = -1
                endDay() = 0
                nextRelease(0, 0) = 0         // a day that is over is a release day still
                """);
    }
}
