import java.math.BigInteger;

/** The boundaries that promises 25 to 29 name, sentence by sentence. */
public final class CommandsBoundsTest {
    private static final String SPACES_149 = "text \"" + " ".repeat(149) + "\" = 149\n";

    public static void main(String[] arguments) {
        types();
        clears();
        runs();
        answersOfRuns();
        undos();
        digestsOfTheLeast();
        digestsOfTheGreatest();
        Sentences.allQuoted(25, 29);
        Script.end();
    }

    private static void types() {
        Sentences.holds(25, "Appends a byte to the command text.", """
                type(100) = 1
                type(97) = 2
                type(121) = 3
                type(115) = 4
                type(32) = 5
                type(50) = 6
                runCommands() = -16           // the semicolon is missing
                type(59) = 7
                runCommands() = 1
                whole(3) = 2
                undo() = 0
                whole(9) = 7                  // to type is not undoable
                undo() throws IllegalStateException
                """);
        Sentences.holds(25, "`value`: 0 to 127", """
                type(-1) throws IllegalArgumentException
                type(128) throws IllegalArgumentException
                type(0) = 1
                type(127) = 2
                """);
        Sentences.holds(25, "Throws `IllegalArgumentException` if value is out of range", """
                type(-2147483648) throws IllegalArgumentException
                type(2147483647) throws IllegalArgumentException
                type(288) throws IllegalArgumentException       // its last byte is a space
                type(-1) throws IllegalArgumentException
                type(128) throws IllegalArgumentException
                whole(9) = 0
                type(127) = 1
                type(0) = 2
                """);
        Sentences.holds(25, "Returns the length of the text.", SPACES_149 + """
                type(32) = 150
                clearCommands() = 150
                type(32) = 1
                type(32) = 2
                """);
        Sentences.holds(25, "Throws `IllegalStateException` if the text has 150 bytes", SPACES_149 + """
                type(32) = 150                // it had 149
                type(32) throws IllegalStateException
                type(0) throws IllegalStateException
                whole(9) = 150
                runCommands() = 0
                type(32) throws IllegalStateException
                clearCommands() = 150
                type(32) = 1
                """);
    }

    private static void clears() {
        Sentences.holds(26, "Empties the command text.", """
                clearCommands() = 0           // it was empty
                text "days 1; x" = 9
                runCommands() = -18
                clearCommands() = 9
                whole(9) = 0
                runCommands() = 0             // nothing is left of the fault
                text "days 2;" = 7
                runCommands() = 1
                whole(3) = 2                  // nor of the commands
                """);
        Sentences.holds(26, "Returns the length that it had.", SPACES_149 + """
                type(32) = 150
                clearCommands() = 150
                clearCommands() = 0
                type(59) = 1
                clearCommands() = 1
                undo() throws IllegalStateException
                """);
    }

    private static void runs() {
        Sentences.holds(27, "Runs the command text, which stays as it is.", """
                text "days 1; days 31;" = 16
                runCommands() = 1
                whole(9) = 16
                runCommands() = 1
                whole(3) = 2
                type(120) = 17
                runCommands() = -26
                whole(9) = 17
                """);
        Sentences.holds(27, "Undoable, if it has no fault.", """
                text "days 1;x" = 8
                runCommands() = -17
                undo() throws IllegalStateException
                clearCommands() = 8
                runCommands() = 0             // an empty text has no fault
                undo() = 0
                undo() throws IllegalStateException
                text "days 31;" = 8
                runCommands() = 0             // no command is carried out
                undo() = 0
                undo() throws IllegalStateException
                text "days 1;days 1;days 1;" = 21
                runCommands() = 3
                undo() = 0                    // one state for all three
                whole(3) = 0
                """);
        Sentences.holds(27, "Undoable, if it has no fault.", """
                4 times endDay() = 0
                text "x" = 1
                runCommands() = -10
                undo() = 3
                whole(3) = 3                  // the full stack has lost none
                undo() = 2
                undo() = 1
                undo() = 0
                whole(3) = 0
                """);
    }

    private static void answersOfRuns() {
        Sentences.holds(27, "Returns the number of commands that were carried out", """
                runCommands() = 0
                text "days 0;" = 7
                runCommands() = 0
                text "days 1;" = 7
                runCommands() = 1
                """ + "text \"" + "days 1;".repeat(21) + "\" = 147\n" + """
                runCommands() = 21            // as many as a text can hold
                whole(3) = 22
                type(32) = 148
                type(32) = 149
                type(32) = 150
                runCommands() = 21
                whole(3) = 43
                """);
        Sentences.holds(27, "-10 minus the fault if it has one.", """
                text ";" = 1
                runCommands() = -10           // the fault 0
                text " ;" = 2
                runCommands() = -11
                text "days 1" = 6
                runCommands() = -16           // its length
                """ + SPACES_149 + """
                type(59) = 150
                runCommands() = -159          // the last byte
                whole(3) = 0
                """);
        Sentences.holds(27, "-10 minus the fault if it has one.",
                "text \"" + " ".repeat(144) + "days 1\" = 150\n" + """
                runCommands() = -160          // the greatest fault: the length 150
                """);
    }

    private static void undos() {
        Sentences.holds(28, "Restores the latest saved state and removes it from the undo stack.", """
                endDay() = 0
                endDay() = 0
                undo() = 1
                whole(3) = 1
                endDay() = 0
                undo() = 1
                whole(3) = 1
                undo() = 0
                whole(3) = 0
                """);
        Sentences.holds(28, "Returns the number of states that are left on the stack.", """
                endDay() = 0
                undo() = 0
                4 times endDay() = 0
                undo() = 3
                undo() = 2
                undo() = 1
                undo() = 0
                5 times endDay() = 0
                undo() = 3                    // no more than four were kept
                """);
        Sentences.holds(28, "Throws `IllegalStateException` if the stack is empty", """
                undo() throws IllegalStateException
                endDay() = 0
                undo() = 0
                undo() throws IllegalStateException
                5 times endDay() = 0
                undo() = 3
                undo() = 2
                undo() = 1
                undo() = 0
                undo() throws IllegalStateException
                whole(3) = 1
                """);
    }

    private static void digestsOfTheLeast() {
        Sentences.namesNoBoundary(29, "Returns the hash.");
        checkHash("It starts with h = 43434.", 0, "");
        checkHash("the number of states on the undo stack", 1, "endDay() = 0");
        checkHash("the number of states on the undo stack", 4, "4 times endDay() = 0");
        checkHash("the number of states on the undo stack", 4, "5 times endDay() = 0");
        checkHash("the number of states on the undo stack", 0, """
                endDay() = 0
                undo() = 0
                """);
    }

    private static void digestsOfTheGreatest() {
        checkHash("(long arithmetic, overflow wraps)", 4, fullNumbers() + """
                credit(9, 0, 2147483647) = 2147483647
                credit(9, 1, 2147483647) = 2147483647
                credit(9, 2, 2147483647) = 2147483647
                """);
        String oneOfEach = """
                addTrade(40, 30, 20) = 0
                addMentor(6, 1) = 0
                addApprentice(0, 0) = 0
                """;
        String entries = "entry() of 0 to 3 for each pending entry and then for each doubted one";
        checkHash(entries, 3, oneOfEach);     // no entry of either kind
        String twentyEntries = oneOfEach + """
                addMentor(6, 1) = 1
                text "log 0 0 1;log 0 1 1;log 0 2 1;" = 30
                4 times runCommands() = 3
                endDay() = 0
                2 times runCommands() = 3
                log(0, 0, 1) = 19
                log(0, 0, 3) = 20
                """;
        checkHash(entries, 4, twentyEntries);
        checkHash(entries, 4, twentyEntries + "doubt(0) = 1");
        checkHash(entries, 4, twentyEntries + "move(0, 1) = 20");
        String last = "bestMentor(), and nextRelease() of 0.";
        checkHash(last, 3, oneOfEach);        // both are NONE
        checkHash(last, 4, oneOfEach + """
                addMentor(6, 1) = 1
                release(0, 199) = 1
                """);
        checkHash(last, 4, oneOfEach + """
                addMentor(6, 1) = 1
                release(0, 0) = 1
                """);
    }

    /** Compares the digest, behind a text of calls, with the hash of what the face tells. */
    private static void checkHash(String sentence, int states, String text) {
        String title = Sentences.quote(29, sentence);
        TradeLogs logs = Script.run(title, text);
        long digest = Script.digestOf(logs);
        Script.check(title + ": " + text, digest, new FaceHash(logs).of(states));
        Script.more(logs, title, "");
    }

    /** Five trades, six mentors and ten apprentices. */
    private static String fullNumbers() {
        StringBuilder text = new StringBuilder();
        for (int trade = 0; trade < 5; trade++) {
            text.append("addTrade(0, 2000, 2000) = ").append(trade).append('\n');
        }
        for (int mentor = 0; mentor < 6; mentor++) {
            text.append("addMentor(6, 31) = ").append(mentor).append('\n');
        }
        for (int apprentice = 0; apprentice < 10; apprentice++) {
            text.append("addApprentice(4, ").append(apprentice % 6).append(") = ");
            text.append(apprentice).append('\n');
        }
        return text.toString();
    }

    /** The hash of what the face tells, reckoned without a bound and cut to a long at the end. */
    private static final class FaceHash {
        private final TradeLogs logs;
        private BigInteger hash = BigInteger.valueOf(43434);

        FaceHash(TradeLogs logs) {
            this.logs = logs;
        }

        long of(int states) {
            hash = hash.multiply(BigInteger.valueOf(31)).add(BigInteger.valueOf(states));
            add("whole(N)", 10);
            int mentors = valueOf("whole(1)");
            for (int mentor = 0; mentor < mentors; mentor++) {
                add("mentor(" + mentor + ", N)", 5);
            }
            int apprentices = valueOf("whole(2)");
            for (int apprentice = 0; apprentice < apprentices; apprentice++) {
                addApprentice(apprentice);
            }
            return hash.longValue();
        }

        private int valueOf(String call) {
            return Integer.parseInt(Script.answer(logs, call));
        }

        /** Adds what a call answers with the numbers from 0 in the place of its N. */
        private void add(String call, int values) {
            for (int what = 0; what < values; what++) {
                int value = valueOf(call.replace("N", String.valueOf(what)));
                hash = hash.multiply(BigInteger.valueOf(31)).add(BigInteger.valueOf(value));
            }
        }

        private void addApprentice(int apprentice) {
            add("apprentice(" + apprentice + ", N)", 12);
            for (int part = 0; part < 3; part++) {
                add("part(" + apprentice + ", " + part + ", N)", 5);
            }
            addEntries(apprentice, false, valueOf("apprentice(" + apprentice + ", 2)"));
            addEntries(apprentice, true, valueOf("apprentice(" + apprentice + ", 3)"));
            add("bestMentor(" + apprentice + ")", 1);
            add("nextRelease(" + apprentice + ", 0)", 1);
        }

        private void addEntries(int apprentice, boolean doubted, int size) {
            for (int index = 0; index < size; index++) {
                add("entry(" + apprentice + ", " + doubted + ", " + index + ", N)", 4);
            }
        }
    }
}
