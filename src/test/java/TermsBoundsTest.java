/**
 * The boundaries that the terms name, which bind all promises, sentence by sentence: those of
 * trades, mentors and apprentices here, the others in TermsOfLogging and TermsOfTexts.
 */
public final class TermsBoundsTest {
    private static final int TERMS = Sentences.TERMS;

    public static void main(String[] arguments) {
        sentencesWithoutBoundary();
        numberOfCalls();
        numberOfTrades();
        numberOfMentors();
        numberOfApprentices();
        rowsOfApprentices();
        entries();
        TermsOfLogging.hold();
        TermsOfTexts.hold();
        Sentences.allQuoted(TERMS, TERMS);
        Script.end();
    }

    private static void sentencesWithoutBoundary() {
        Sentences.namesNoBoundary(TERMS, "An exchange of apprentices: trades with hours by parts,");
        // What is divided is held against promise 22, "as a fraction".
        Sentences.namesNoBoundary(TERMS, "All numbers are whole; a / b is rounded down");
        Sentences.namesNoBoundary(TERMS, "the interface says: ---- trades, mentors, apprentices.");
        Sentences.namesNoBoundary(TERMS, "the interface says: ---- logging.");
        Sentences.namesNoBoundary(TERMS, "the interface says: ---- moves.");
        Sentences.namesNoBoundary(TERMS, "the interface says: ---- values.");
        Sentences.namesNoBoundary(TERMS, "the interface says: ---- command text, undo and checksum.");
    }

    private static void numberOfCalls() {
        String title = Sentences.quote(TERMS, "An object is used for at most 512 calls after it has been made");
        Script.run(title, """
                506 times endDay() = 0
                4 times whole(3) = 506
                undo() = 3                    // the 512th call: a digest goes before this one
                """);
        Sentences.holds(TERMS, "Days are numbered from 0.", """
                whole(3) = 0
                addTrade(1, 1, 1) = 0
                addMentor(1, 1) = 0
                addApprentice(0, 0) = 0
                completeOn(0, 12) = 0
                log(0, 0, 1) = 1
                entry(0, false, 0, 2) = 0
                endDay() = 0
                release(0, 0) throws IllegalStateException
                release(0, 1) = 1
                log(0, 0, 1) throws IllegalStateException
                """);
    }

    private static void numberOfTrades() {
        Sentences.holds(TERMS, "There are at most 5 trades, numbered from 0.", """
                text "trade 1 0 0;trade 2 0 0;trade 3 0 0;trade 4 0 0;" = 48
                runCommands() = 4
                runCommands() = 1             // the fifth one, not the sixth one
                whole(0) = 5
                runCommands() = 0
                addApprentice(0, -1) = 0
                addApprentice(4, -1) = 1
                addApprentice(5, -1) throws IndexOutOfBoundsException
                part(0, 0, 0) = 1
                part(1, 0, 0) = 1
                """);
        Sentences.holds(TERMS, "A trade needs hours in each of its 3 parts, 0 to 2 (0 to 2000 each).", """
                text "trade 0 2000 2000;trade 2000 0 0;trade 2001 0 0;" = 48
                runCommands() = 2
                text "trade 0 2001 0;" = 15
                runCommands() = 0
                text "trade 0 0 2001;" = 15
                runCommands() = 0
                addApprentice(0, -1) = 0
                part(0, -1, 0) throws IllegalArgumentException
                part(0, 0, 0) = 0
                part(0, 1, 0) = 2000
                part(0, 2, 0) = 2000
                part(0, 3, 0) throws IllegalArgumentException
                """);
    }

    private static void numberOfMentors() {
        Sentences.holds(TERMS, "There are at most 6 mentors, numbered from 0", """
                text "mentor 1 0;mentor 1 0;mentor 1 0;mentor 1 0;mentor 2 0;" = 55
                runCommands() = 5
                runCommands() = 1             // the sixth one, not the seventh one
                whole(1) = 6
                runCommands() = 0
                mentor(0, 0) = 1
                mentor(4, 0) = 2
                mentor(5, 0) = 1
                mentor(6, 0) throws IndexOutOfBoundsException
                """);
        for (int trade = 0; trade < 5; trade++) {
            Sentences.holds(TERMS, "each with a set of the trades that are taught, bit t for the trade t", """
                    addTrade(1, 1, 1) = 0
                    addTrade(1, 1, 1) = 1
                    addTrade(1, 1, 1) = 2
                    addTrade(1, 1, 1) = 3
                    addTrade(1, 1, 1) = 4
                    addMentor(6, TAUGHT) = 0
                    addMentor(6, OTHERS) = 1
                    addApprentice(TRADE, 1) throws IllegalStateException
                    addApprentice(TRADE, 0) = 0
                    reason(0, 1) = 2
                    addApprentice(OTHER, 0) throws IllegalStateException
                    addApprentice(OTHER, 1) = 1
                    reason(1, 0) = 2
                    """.replace("TAUGHT", String.valueOf(1 << trade))
                    .replace("OTHERS", String.valueOf(31 - (1 << trade)))
                    .replace("TRADE", String.valueOf(trade))
                    .replace("OTHER", String.valueOf((trade + 1) % 5)));
        }
        Sentences.holds(TERMS, "a ratio: the greatest number of apprentices (1 to 6).", """
                text "trade 1 1 1;mentor 0 1;" = 23
                runCommands() = 1
                text "mentor 1 1;mentor 6 1;mentor 7 1;" = 33
                runCommands() = 2
                text "pupil 0 0;pupil 0 0;" = 20
                runCommands() = 1
                text "pupil 0 1;pupil 0 1;pupil 0 1;pupil 0 1;pupil 0 1;" = 50
                runCommands() = 5
                runCommands() = 1             // the sixth one, not the seventh one
                mentor(1, 2) = 6
                reason(0, 1) = 3
                """);
    }

    private static void numberOfApprentices() {
        Sentences.holds(TERMS, "There are at most 10 apprentices, numbered from 0", """
                text "trade 1 1 1;mentor 6 1;mentor 6 1;" = 34
                runCommands() = 3
                text "pupil 0 0;pupil 0 0;pupil 0 0;pupil 0 1;pupil 0 1;" = 50
                runCommands() = 5
                runCommands() = 5
                whole(2) = 10
                mentor(1, 2) = 4
                text "pupil 0 1;" = 10
                runCommands() = 0             // mentor 1 could take two more
                apprentice(-1, 0) throws IndexOutOfBoundsException
                apprentice(0, 0) = 0
                apprentice(9, 0) = 0
                apprentice(10, 0) throws IndexOutOfBoundsException
                """);
        Sentences.holds(TERMS, "each with a trade, and with a mentor or none.", """
                text "pupil 0 0;" = 10
                runCommands() = 0             // neither is there
                addTrade(1, 1, 1) = 0
                runCommands() = 0
                addMentor(1, 1) = 0
                runCommands() = 1
                runCommands() = 0
                addApprentice(0, -1) = 1
                addApprentice(0, -2) throws IndexOutOfBoundsException
                """);
    }

    private static void rowsOfApprentices() {
        Sentences.holds(TERMS, "a queue of pending entries, and a queue of doubted entries, at most 20 entries together", """
                text "trade 1 1 1;mentor 1 1;pupil 0 0;mentor 1 1;" = 44
                runCommands() = 4
                text "log 0 0 1;log 0 1 1;log 0 2 1;log 0 0 1;log 0 1 1;days 1;" = 57
                3 times runCommands() = 6
                doubt(0) = 1
                move(0, 1) = 14
                apprentice(0, 3) = 15
                runCommands() = 6
                apprentice(0, 2) = 5
                runCommands() = 0             // 15 doubted and 5 pending ones
                text "refuse 0;log 0 0 1;log 0 0 1;" = 29
                runCommands() = 2
                """);
        Sentences.holds(TERMS, "hours that were refused, in all", """
                text "trade 1 1 1;mentor 1 1;pupil 0 0;log 0 0 12;doubt 0;" = 52
                runCommands() = 5
                apprentice(0, 6) = 0
                text "refuse 0;" = 9
                runCommands() = 1
                apprentice(0, 6) = 12
                runCommands() = 0
                apprentice(0, 6) = 12
                """);
        Sentences.holds(TERMS, "a set of release days (0 to 199)", """
                text "trade 1 1 1;mentor 1 1;pupil 0 0;" = 33
                runCommands() = 3
                text "free 0 0;free 0 199;free 0 0;free 0 200;" = 40
                runCommands() = 3
                apprentice(0, 7) = 2
                """);
        Sentences.holds(TERMS, "and days on which work was logged.", """
                text "trade 1 1 1;mentor 1 1;pupil 0 0;" = 33
                runCommands() = 3
                apprentice(0, 8) = 0
                text "log 0 0 1;log 0 0 1;days 2;log 0 0 1;free 0 1;free 0 2;" = 55
                runCommands() = 5             // day 2 has work, day 1 has none
                apprentice(0, 8) = 2
                text "free 0 0;" = 9
                runCommands() = 0
                """);
    }

    private static void entries() {
        Sentences.holds(TERMS, "An entry has a part, hours (1 to 12), the day on which it was logged, and the mentor at that time.", """
                text "trade 1 1 1;mentor 1 1;mentor 2 1;pupil 0 1;pupil 0 1;" = 54
                runCommands() = 5
                text "log 0 2 12;log 1 0 1;log 1 0 13;" = 32
                runCommands() = 2
                text "log 1 0 0;" = 10
                runCommands() = 0
                text "days 3;move 0 0;leave 0;" = 24
                runCommands() = -26           // there is no such word
                text "days 3;move 0 0;" = 16
                runCommands() = 2
                entry(0, true, 0, 0) = 2
                entry(0, true, 0, 1) = 12
                entry(0, true, 0, 2) = 0
                entry(0, true, 0, 3) = 1
                entry(1, false, 0, 0) = 0
                entry(1, false, 0, 1) = 1
                """);
    }
}
