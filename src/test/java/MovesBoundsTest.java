/** The boundaries that promises 12 to 15 name, sentence by sentence. */
public final class MovesBoundsTest {
    // Mentor 1 is full, mentor 0 does not teach trade 1, apprentice 3 has no mentor.
    private static final String THREE_MENTORS = """
            addTrade(4, 4, 4) = 0
            addTrade(5, 5, 5) = 1
            addMentor(2, 1) = 0
            addMentor(1, 3) = 1
            addMentor(2, 3) = 2
            addApprentice(0, 0) = 0
            addApprentice(0, 1) = 1
            addApprentice(1, 2) = 2
            addApprentice(0, -1) = 3
            """;
    private static final String TWENTY_ENTRIES = THREE_MENTORS + """
            text "log 0 0 1;" = 10
            12 times runCommands() = 1
            endDay() = 0
            8 times runCommands() = 1
            apprentice(0, 2) = 20
            """;

    public static void main(String[] arguments) {
        argumentsOfMove();
        answersOfMove();
        refusedMoves();
        leaves();
        argumentsOfExchange();
        answersOfExchange();
        refusedExchanges();
        argumentsOfReason();
        answersOfReason();
        Sentences.allQuoted(12, 15);
        Script.end();
    }

    private static void argumentsOfMove() {
        Sentences.holds(12, "`apprentice`: number of an apprentice", THREE_MENTORS + """
                move(-1, 2) throws IndexOutOfBoundsException
                move(4, 2) throws IndexOutOfBoundsException
                move(3, 2) = 0
                leave(3) = 2
                move(0, 2) = 0
                """);
        Sentences.holds(12, "`mentor`: number of a mentor", THREE_MENTORS + """
                move(3, -1) throws IndexOutOfBoundsException            // NONE is no mentor
                move(3, 3) throws IndexOutOfBoundsException
                move(3, 0) = 0
                move(3, 2) = 0
                """);
        Sentences.holds(12, "Throws `IndexOutOfBoundsException` if there is no such apprentice or mentor", """
                move(0, 0) throws IndexOutOfBoundsException             // there is neither
                """ + THREE_MENTORS + """
                move(4, 3) throws IndexOutOfBoundsException
                move(-2147483648, 0) throws IndexOutOfBoundsException
                move(2147483647, 0) throws IndexOutOfBoundsException
                move(0, -2147483648) throws IndexOutOfBoundsException
                move(0, 2147483647) throws IndexOutOfBoundsException
                move(0, 2) = 0
                """);
    }

    private static void answersOfMove() {
        Sentences.holds(12, "Moves an apprentice to a mentor. Undoable.", THREE_MENTORS + """
                log(0, 1, 3) = 1
                move(0, 1) throws IllegalStateException
                move(0, 2) = 1
                undo() = 3
                apprentice(0, 1) = 0
                apprentice(0, 2) = 1
                apprentice(0, 3) = 0
                apprentice(0, 10) = 0
                mentor(0, 2) = 1
                mentor(2, 2) = 1
                """);
        Sentences.holds(12, "Returns the number of entries that become doubted.", TWENTY_ENTRIES + """
                move(0, 2) = 20
                apprentice(0, 2) = 0
                apprentice(0, 3) = 20
                entry(0, true, 19, 3) = 0
                move(0, 0) = 0                // none is pending
                undo() = 3
                undo() = 2
                doubt(0) = 1
                move(0, 2) = 19               // one was doubted before
                apprentice(0, 3) = 20
                """);
        Sentences.holds(12, "Returns the number of entries that become doubted.", TWENTY_ENTRIES + """
                leave(0) = 0
                move(0, 0) = 0                // all were logged with this mentor
                apprentice(0, 2) = 20
                apprentice(0, 3) = 0
                """);
    }

    private static void refusedMoves() {
        String sentence = "Throws `IllegalStateException` if it cannot be moved";
        Sentences.holds(12, sentence, THREE_MENTORS + """
                move(0, 0) throws IllegalStateException                 // it has this mentor
                move(1, 1) throws IllegalStateException
                leave(0) = 0
                move(0, 0) = 0
                apprentice(0, 10) = 1
                """);
        Sentences.holds(12, sentence, THREE_MENTORS + """
                move(2, 0) throws IllegalStateException                 // not its trade
                leave(1) = 1
                move(2, 1) = 0
                """);
        Sentences.holds(12, sentence, THREE_MENTORS + """
                move(0, 1) throws IllegalStateException                 // one of one
                move(3, 2) = 0                                          // it had one of two
                move(0, 2) throws IllegalStateException
                leave(2) = 2
                move(0, 2) = 0
                """);
    }

    private static void leaves() {
        Sentences.holds(13, "`apprentice`: number of an apprentice", THREE_MENTORS + """
                leave(-1) throws IndexOutOfBoundsException
                leave(4) throws IndexOutOfBoundsException
                leave(0) = 0
                move(3, 0) = 0
                leave(3) = 0
                """);
        Sentences.holds(13, "Throws `IndexOutOfBoundsException` if there is no such apprentice", """
                leave(0) throws IndexOutOfBoundsException               // there is none
                """ + THREE_MENTORS + """
                leave(4) throws IndexOutOfBoundsException
                leave(-2147483648) throws IndexOutOfBoundsException
                leave(2147483647) throws IndexOutOfBoundsException
                leave(2) = 2
                """);
        Sentences.holds(13, "Returns the mentor that it had.", THREE_MENTORS + """
                leave(0) = 0
                leave(1) = 1
                leave(2) = 2
                whole(7) = 4
                """);
        Sentences.holds(13, "Throws `IllegalStateException` if it has none", THREE_MENTORS + """
                leave(3) throws IllegalStateException                   // it never had one
                leave(1) = 1
                leave(1) throws IllegalStateException
                move(1, 0) = 0
                leave(1) = 0
                """);
        Sentences.holds(13, "Lets an apprentice leave its mentor. Undoable.", THREE_MENTORS + """
                leave(3) throws IllegalStateException
                leave(1) = 1
                reason(1, 1) = 0
                undo() = 3
                apprentice(1, 1) = 1
                mentor(1, 2) = 1
                reason(1, 1) = 1
                """);
    }

    private static void argumentsOfExchange() {
        Sentences.holds(14, "`a`: number of an apprentice", THREE_MENTORS + """
                exchange(-1, 1) throws IndexOutOfBoundsException
                exchange(4, 1) throws IndexOutOfBoundsException
                exchange(0, 1) = 0
                move(3, 2) = 0
                exchange(3, 0) = 0
                """);
        Sentences.holds(14, "`b`: number of another apprentice", THREE_MENTORS + """
                exchange(1, -1) throws IndexOutOfBoundsException
                exchange(1, 4) throws IndexOutOfBoundsException
                exchange(1, 1) throws IllegalArgumentException          // no other one
                exchange(1, 0) = 0
                exchange(0, 2) = 0
                """);
        Sentences.holds(14, "Throws `IndexOutOfBoundsException` if there is no such apprentice", """
                exchange(0, 1) throws IndexOutOfBoundsException         // there is none
                """ + THREE_MENTORS + """
                exchange(4, 5) throws IndexOutOfBoundsException
                exchange(-2147483648, 0) throws IndexOutOfBoundsException
                exchange(0, 2147483647) throws IndexOutOfBoundsException
                exchange(0, 1) = 0
                """);
        Sentences.holds(14, "Throws `IllegalArgumentException` if both are the same", THREE_MENTORS + """
                exchange(0, 0) throws IllegalArgumentException
                exchange(3, 3) throws IllegalArgumentException          // without a mentor, too
                exchange(0, 1) = 0
                """);
    }

    private static void answersOfExchange() {
        Sentences.holds(14, "Exchanges two apprentices. Undoable.", THREE_MENTORS + """
                log(0, 0, 1) = 1
                log(1, 1, 2) = 1
                exchange(0, 2) throws IllegalStateException
                exchange(0, 1) = 2
                undo() = 3
                apprentice(0, 1) = 0
                apprentice(1, 1) = 1
                apprentice(0, 2) = 1
                apprentice(1, 2) = 1
                whole(5) = 0
                apprentice(0, 10) = 0
                apprentice(1, 10) = 0
                """);
        Sentences.holds(14, "Returns the number of entries of both that become doubted.", TWENTY_ENTRIES + """
                exchange(0, 1) = 20
                exchange(0, 1) = 0
                undo() = 3
                undo() = 2
                log(1, 0, 1) = 1
                exchange(1, 0) = 21
                """);
        Sentences.holds(14, "Returns the number of entries of both that become doubted.", THREE_MENTORS + """
                addMentor(2, 1) = 3
                log(0, 0, 1) = 1
                leave(0) = 0
                leave(1) = 1
                addMentor(2, 3) = 4
                move(1, 0) = 0
                log(1, 0, 1) = 1
                log(1, 0, 1) = 2
                move(0, 1) = 1
                log(0, 1, 1) = 1
                exchange(0, 1) = 3            // one was doubted before
                apprentice(0, 3) = 2
                apprentice(1, 3) = 2
                """);
    }

    private static void refusedExchanges() {
        String cannot = "Throws `IllegalStateException` if they cannot be exchanged";
        Sentences.holds(14, cannot, THREE_MENTORS + """
                move(3, 0) = 0
                exchange(0, 3) throws IllegalStateException             // they have the same mentor
                exchange(3, 0) throws IllegalStateException
                exchange(3, 1) = 0
                exchange(0, 3) = 0
                """);
        Sentences.holds(14, cannot, THREE_MENTORS + """
                exchange(0, 2) throws IllegalStateException             // mentor 0 does not teach trade 1
                exchange(2, 0) throws IllegalStateException
                exchange(1, 2) = 0
                exchange(0, 2) throws IllegalStateException
                """);
        Sentences.holds(14, "or one of them has no mentor", THREE_MENTORS + """
                addApprentice(0, -1) = 4
                exchange(0, 3) throws IllegalStateException
                exchange(3, 0) throws IllegalStateException
                exchange(3, 4) throws IllegalStateException             // neither has one
                move(3, 2) = 0
                exchange(0, 3) = 0
                """);
    }

    private static void argumentsOfReason() {
        Sentences.holds(15, "`apprentice`: number of an apprentice", THREE_MENTORS + """
                reason(-1, 0) throws IndexOutOfBoundsException
                reason(4, 0) throws IndexOutOfBoundsException
                reason(0, 0) = 1
                reason(3, 0) = 0
                """);
        Sentences.holds(15, "`mentor`: number of a mentor", THREE_MENTORS + """
                reason(3, -1) throws IndexOutOfBoundsException          // NONE is no mentor
                reason(3, 3) throws IndexOutOfBoundsException
                reason(3, 0) = 0
                reason(3, 2) = 0
                """);
        Sentences.holds(15, "Throws `IndexOutOfBoundsException` if there is no such apprentice or mentor", """
                reason(0, 0) throws IndexOutOfBoundsException           // there is neither
                """ + THREE_MENTORS + """
                reason(4, 3) throws IndexOutOfBoundsException
                reason(-2147483648, 0) throws IndexOutOfBoundsException
                reason(2147483647, 0) throws IndexOutOfBoundsException
                reason(0, -2147483648) throws IndexOutOfBoundsException
                reason(0, 2147483647) throws IndexOutOfBoundsException
                reason(0, 2) = 0
                """);
    }

    private static void answersOfReason() {
        Sentences.namesNoBoundary(15, "Tells why an apprentice cannot be moved to a mentor.");
        Sentences.holds(15, "Returns the reason, 1 to 3; 0 if it can be moved.", THREE_MENTORS + """
                reason(0, 0) = 1
                reason(1, 1) = 1              // and mentor 1 is full
                reason(2, 0) = 2
                reason(0, 1) = 3
                reason(0, 2) = 0
                reason(3, 0) = 0
                reason(3, 1) = 3
                move(3, 2) = 0
                reason(0, 2) = 3              // full by now
                reason(3, 2) = 1
                leave(2) = 2
                reason(0, 2) = 0
                reason(2, 2) = 0              // it has no mentor now
                addMentor(1, 1) = 3
                move(0, 3) = 0
                reason(2, 3) = 2              // and mentor 3 is full
                """);
    }
}
