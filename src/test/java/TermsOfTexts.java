/** The boundaries that the terms of command texts, undo and exceptions name. */
final class TermsOfTexts {
    private static final int TERMS = Sentences.TERMS;
    private static final String TWO_APPRENTICES = """
            addTrade(40, 30, 20) = 0
            addMentor(2, 1) = 0
            addMentor(2, 1) = 1
            addApprentice(0, 0) = 0
            addApprentice(0, 1) = 1
            """;
    private static final String FIRST_BYTE = "The fault of a command text is the index of the first byte"
            + " that cannot stand at its place";
    private static final String TOO_SOON = "or the length of the text if it ends too soon.";
    private static final String[] COMMANDS = {"trade 1 1 1", "mentor 1 1", "pupil 0 0", "log 0 0 1",
        "confirm 0", "doubt 0", "accept 0", "refuse 0", "move 0 1", "swap 0 1", "free 0 1", "days 1"};

    private TermsOfTexts() {
    }

    static void hold() {
        lengthOfTheText();
        emptyTexts();
        words();
        digits();
        spaces();
        commands();
        settlingCommands();
        days();
        firstBytesAtFault();
        textsThatEndTooSoon();
        unknownWords();
        numbersOutOfRange();
        running();
        savedStates();
        refusedCalls();
        orderOfExceptions();
        none();
    }

    /** A text of a number of commands that are all carried out, or with a fault: -10 minus it. */
    private static String answers(String text, int due) {
        return "text \"" + text + "\" = " + text.length() + "\nrunCommands() = " + due + "\n";
    }

    private static String fault(String text, int index) {
        return answers(text, -10 - index);
    }

    private static void lengthOfTheText() {
        String days = "days 1;".repeat(20);
        Sentences.holds(TERMS, "The command text has at most 150 bytes.", TWO_APPRENTICES
                + answers(days + "log 0 0 1;", 21) + """
                whole(9) = 150
                type(32) throws IllegalStateException
                whole(9) = 150
                whole(3) = 20
                apprentice(0, 2) = 1
                """);
    }

    private static void emptyTexts() {
        Sentences.holds(TERMS, "a text that is empty, or has spaces alone, has no fault",
                "runCommands() = 0\n" + answers(" ", 0) + answers(" ".repeat(150), 0) + """
                undo() = 2
                undo() = 1
                undo() = 0
                """);
    }

    private static void words() {
        Sentences.holds(TERMS, "a word of letters a to z",
                fault("`ays 1;", 0) + fault("{ays 1;", 0) + fault("Days 1;", 0) + fault("DAYS 1;", 0)
                + fault("days` 1;", 4) + fault("days{ 1;", 4) + fault("daysS 1;", 4)
                + fault("1 days;", 0) + answers("days 1;", 1));
    }

    private static void digits() {
        Sentences.holds(TERMS, "followed by its numbers, each of one to four digits",
                fault("days ;", 5) + answers("days 1;", 1) + answers("days 12;", 1)
                + answers("days 123;", 0) + answers("days 1234;", 0) + fault("days 12345;", 9)
                + "whole(3) = 13\n");
        Sentences.holds(TERMS, "followed by its numbers, each of one to four digits", TWO_APPRENTICES
                + fault("log 0 0 12345;", 12) + fault("log 0 12345 0;", 10)
                + fault("log 12345 0 0;", 8) + fault("days /;", 5) + fault("days :;", 5)
                + fault("days 1/;", 6) + fault("days 1:;", 6) + fault("days 1234:;", 9)
                + answers("days 9;", 1) + answers("days 30;", 1)
                + "whole(3) = 39\n");
        Sentences.holds(TERMS, "(zeros in front are allowed; a fifth digit cannot stand)", TWO_APPRENTICES
                + answers("days 01;", 1) + answers("days 001;", 1) + answers("days 0001;", 1)
                + fault("days 00001;", 9) + answers("days 0000;", 0) + fault("days 00000;", 9)
                + answers("log 0000 0002 0012;", 1) + """
                whole(3) = 3
                entry(0, false, 0, 0) = 2
                entry(0, false, 0, 1) = 12
                """);
    }

    private static void spaces() {
        Sentences.holds(TERMS, "and with at least one space (byte 32) in front, and a semicolon.",
                TWO_APPRENTICES + fault("days1;", 4) + answers("days 1;", 1) + answers("days   1;", 1)
                + fault("days\t1;", 4) + fault("days \t1;", 5) + fault("days!1;", 4)
                + fault("days\u001f1;", 4) + fault("log 0 0:1;", 7) + fault("log 0 0;", 7)
                + answers("log 0  0   1;", 1) + fault("days 1:", 6) + fault("days 1,", 6)
                + fault("days 1 days 1;", 7));
        Sentences.holds(TERMS, "Spaces may also stand in front of a command, in front of a semicolon, and at the end.",
                answers(" days 1;", 1) + answers("days 1 ;", 1) + answers("days 1; ", 1)
                + answers("   days  1   ;   days   1  ;   ", 2) + fault("da ys 1;", 0)
                + fault("days 1; ;", 8) + fault("days 1;\t", 7) + fault("\tdays 1;", 0)
                + fault("days 1\t;", 6) + fault("days 1 0;", 7) + "whole(3) = 5\n");
    }

    private static void commands() {
        for (String command : COMMANDS) {
            String word = command.substring(0, command.indexOf(' '));
            int last = command.lastIndexOf(' ');
            String fewer = command.substring(0, last);
            Sentences.holds(TERMS, word.equals("trade") ? "The words are: trade a b c (addTrade(a, b, c))"
                    : sentenceOf(word), TWO_APPRENTICES + """
                    log(0, 0, 1) = 1
                    log(0, 0, 1) = 2
                    doubt(0) = 1
                    """ + answers(command + ";", 1)
                    + fault(fewer + ";", last) + fault(fewer + " ;", last + 1)
                    + fault(command + " 0;", command.length() + 1)
                    + fault(word.substring(1) + " 0;", 0)
                    + fault(word + "x 0;", 0));
        }
        Sentences.holds(TERMS, "confirm m (confirm(m, 99))", """
                addTrade(40, 30, 20) = 0
                addMentor(6, 1) = 0
                addApprentice(0, 0) = 0
                addApprentice(0, 0) = 1
                addApprentice(0, 0) = 2
                addApprentice(0, 0) = 3
                addApprentice(0, 0) = 4
                """ + answers("log 0 0 1;log 1 0 1;log 2 0 1;log 3 0 1;log 4 0 1;", 5) + """
                11 times runCommands() = 5
                endDay() = 0
                8 times runCommands() = 5
                whole(4) = 100
                """ + answers("confirm 0;", 1) + """
                whole(4) = 1                  // one more than it confirms
                mentor(0, 4) = 99
                runCommands() = 1
                whole(4) = 0
                """);
    }

    /** The commands of settle, where the one that accepts would make too many done hours. */
    private static void settlingCommands() {
        String greatest = TWO_APPRENTICES + """
                log(0, 1, 5) = 1
                doubt(0) = 5
                credit(0, 1, 2147483643) = 2147483643
                """;
        Sentences.holds(TERMS, sentenceOf("accept"), greatest + answers("accept 0;", 0)
                + "credit(0, 1, -1) = 2147483642\nrunCommands() = 1\n" + """
                part(0, 1, 1) = 2147483647
                apprentice(0, 6) = 0
                """);
        Sentences.holds(TERMS, sentenceOf("refuse"), greatest + answers("refuse 0;", 1) + """
                part(0, 1, 1) = 2147483643
                apprentice(0, 6) = 5
                """);
    }

    private static String sentenceOf(String word) {
        switch (word) {
            case "mentor": return "mentor r t (addMentor(r, t))";
            case "pupil": return "pupil t m (addApprentice(t, m))";
            case "log": return "log a p h (log(a, p, h))";
            case "confirm": return "confirm m (confirm(m, 99))";
            case "doubt": return "doubt a (doubt(a))";
            case "accept": return "accept a (settle(a, true))";
            case "refuse": return "refuse a (settle(a, false))";
            case "move": return "move a m (move(a, m))";
            case "swap": return "swap a b (exchange(a, b))";
            case "free": return "free a d (release(a, d))";
            default: return "days n (n days end)";
        }
    }

    private static void days() {
        Sentences.holds(TERMS, "The n of days has to be 1 to 30 (IllegalArgumentException)",
                answers("days 0;", 0) + answers("days 31;", 0) + answers("days 9999;", 0)
                + "whole(3) = 0\n" + answers("days 1;", 1) + "whole(3) = 1\n"
                + answers("days 30;", 1) + "whole(3) = 31\n");
        Sentences.holds(TERMS, "if the day would be above 9999 then, none of them ends (IllegalStateException).",
                answers("days 30;", 1) + """
                332 times runCommands() = 1
                whole(3) = 9990
                """ + answers("days 10;", 0) + "whole(3) = 9990\n"
                + answers("days 8;", 1) + answers("days 2;", 0) + "whole(3) = 9998\n"
                + answers("days 1;", 1) + "whole(3) = 9999\n" + """
                runCommands() = 0
                undo() = 3                    // a run that carries out nothing saves a state
                whole(3) = 9999
                """);
    }

    private static void firstBytesAtFault() {
        Sentences.holds(TERMS, FIRST_BYTE, TWO_APPRENTICES
                + fault(";", 0) + fault("\0", 0) + fault("\u007f", 0) + fault(" 7", 1)
                + fault("days;", 4) + fault("days x;", 5) + fault("days 1;;", 7)
                + fault("days 1;0", 7) + fault("days 1x;", 6) + fault("days 12x;", 7)
                + fault("days 1234x;", 9) + fault("days 1 x", 7)
                + "whole(3) = 0\n");
        Sentences.holds(TERMS, FIRST_BYTE, TWO_APPRENTICES
                + fault("log 0 0 1;log 0 0;x", 17)       // of two faults the first one
                + fault("trade 1 1;", 9) + fault("trade 1 1 1 1;", 12) + fault("move -1 0;", 5)
                + fault(" ".repeat(149) + ";", 149) + """
                apprentice(0, 2) = 0
                undo() = 3                    // no run with a fault has saved a state
                whole(2) = 1
                """);
    }

    private static void textsThatEndTooSoon() {
        Sentences.holds(TERMS, TOO_SOON, TWO_APPRENTICES
                + fault("days", 4) + fault("days ", 5) + fault("days 1", 6) + fault("days 1 ", 7)
                + fault("days 1234", 9) + fault("days 1;days", 11) + fault("log 0 0", 7)
                + fault("log 0 0 ", 8) + fault("log 0 0 1", 9) + fault(" log", 4)
                + answers("log 0 0 1;", 1));
        Sentences.holds(TERMS, TOO_SOON, fault(" ".repeat(144) + "days 1", 150)
                + fault(" ".repeat(146) + "days", 150) + "whole(3) = 0\n");
    }

    private static void unknownWords() {
        String sentence = "A word that is not one of these is at fault with its first byte, found when the word"
                + " is complete: when a byte that is no letter, or the end of the text, follows it.";
        Sentences.holds(TERMS, sentence, TWO_APPRENTICES
                + fault("day 1;", 0) + fault("dayss 1;", 0) + fault("day;", 0) + fault("day1;", 0)
                + fault("dayS", 0) + fault("daysz 1;", 0) + fault("daysa 1;", 0) + fault("day", 0) + fault("  day", 2) + fault("  day ", 2)
                + fault("days 1;dayz", 7) + fault("days 1; x;", 8) + fault("daysdays 1;", 0)
                + fault("a", 0) + fault("z", 0) + fault("x\0", 0));
        Sentences.holds(TERMS, sentence, TWO_APPRENTICES
                + fault("x".repeat(150), 0) + fault(" ".repeat(149) + "d", 149)
                + answers("days 1;", 1));
        // The words that are known are looked up letter by letter, none is taken for another.
        for (String command : COMMANDS) {
            String word = command.substring(0, command.indexOf(' '));
            Sentences.holds(TERMS, sentence, fault(word, word.length())
                    + fault(word.substring(0, word.length() - 1), 0) + fault(word + "a", 0)
                    + fault("a" + word.substring(1), word.startsWith("a") ? word.length() : 0)
                    + fault(word.substring(0, word.length() - 1) + "z", 0));
        }
    }

    private static void numbersOutOfRange() {
        Sentences.holds(TERMS, "(That a number is out of its range is no fault.)", TWO_APPRENTICES
                + answers("trade 9999 0 0;", 0) + answers("mentor 9999 9999;", 0)
                + answers("pupil 9999 0;", 0) + answers("log 0 0 13;", 0) + answers("log 0 3 1;", 0)
                + answers("free 0 200;", 0) + answers("days 31;", 0) + answers("move 9999 0;", 0)
                + answers("confirm 9999;", 0) + answers("confirm 0;", 1));
    }

    private static void running() {
        Sentences.holds(TERMS, "if it has a fault, nothing is done", TWO_APPRENTICES
                + fault("days 1;log 0 0 1;log 1 0 1;x", 27) + """
                whole(3) = 0
                whole(4) = 0
                """ + fault("log 0 0 1;log 0 0 1", 19) + """
                whole(4) = 0
                """);
        Sentences.holds(TERMS, "the commands are carried out in their order, until one of them would throw an exception, which is not thrown; those before it stay done, and they alone count.",
                TWO_APPRENTICES
                + answers("log 0 0 12;log 0 0 1;log 1 0 1;", 1) + """
                apprentice(0, 2) = 1
                apprentice(1, 2) = 0          // what comes behind it is not done
                """ + answers("log 2 0 1;log 1 0 1;", 0) + """
                apprentice(1, 2) = 0          // the first one
                """ + answers("log 1 0 1;log 1 0 2;free 1 200;", 2) + """
                apprentice(1, 2) = 2          // the last one
                """ + answers("log 1 0 3;doubt 1;", 2) + """
                entry(1, true, 0, 1) = 1
                """);
        Sentences.holds(TERMS, "A run saves one state, the one from before it; its commands save none.", TWO_APPRENTICES
                + "4 times endDay() = 0\n" + answers("days 1;days 1;days 1;days 1;days 1;log 0 0 1;", 6) + """
                whole(3) = 9
                undo() = 3
                whole(3) = 4
                whole(4) = 0
                undo() = 2
                whole(3) = 3
                undo() = 1
                whole(3) = 2
                undo() = 0
                whole(3) = 1
                """);
    }

    private static void savedStates() {
        Sentences.holds(TERMS, "saves the whole state but the command text on an undo stack when it ends normally", """
                endDay() = 0
                text "days 1;" = 7
                addTrade(-1, 0, 0) throws IllegalArgumentException
                undo() = 0                    // a call that threw has saved none
                whole(9) = 7                  // the text stays
                endDay() = 0
                clearCommands() = 7
                undo() = 0
                whole(9) = 0                  // nor does it come back
                """);
        Sentences.holds(TERMS, "also if it changes nothing.", TWO_APPRENTICES + """
                release(0, 5) = 1
                release(0, 5) = 1
                confirm(0, 99) = 0
                credit(0, 0, 0) = 0
                runCommands() = 0
                undo() = 3
                undo() = 2
                undo() = 1
                undo() = 0
                apprentice(0, 7) = 1          // four of them changed nothing
                """);
        Sentences.holds(TERMS, "The saved state is the one from before the call.", TWO_APPRENTICES + """
                log(0, 0, 1) = 1
                undo() = 3
                apprentice(0, 2) = 0
                log(0, 0, 2) = 1
                doubt(0) = 2
                undo() = 3
                entry(0, false, 0, 1) = 2
                undo() = 2
                apprentice(0, 2) = 0
                undo() = 1
                whole(2) = 1
                """);
        Sentences.holds(TERMS, "The stack keeps the latest 4 saved states and drops older ones.", """
                3 times endDay() = 0
                undo() = 2
                endDay() = 0
                endDay() = 0
                whole(3) = 4
                undo() = 3
                undo() = 2
                undo() = 1
                undo() = 0
                whole(3) = 0                  // four were kept
                undo() throws IllegalStateException
                5 times endDay() = 0
                undo() = 3
                undo() = 2
                undo() = 1
                undo() = 0
                whole(3) = 1                  // the oldest of five is gone
                undo() throws IllegalStateException
                9 times endDay() = 0
                undo() = 3
                endDay() = 0
                endDay() = 0
                undo() = 3
                undo() = 2
                undo() = 1
                undo() = 0
                whole(3) = 7
                """);
        Sentences.holds(TERMS, "the interface says: ---- what if, which changes nothing.", TWO_APPRENTICES + """
                log(0, 0, 1) = 1
                release(1, 7) = 1
                completeOn(0, 12) = 7
                completeOn(1, 1) = 90
                bestMentor(0) = 1
                doubtsBy(0, 1) = 1
                nextRelease(1, 0) = 7
                nextRelease(0, 0) = -1
                apprentice(0, 2) = 1
                undo() = 3
                undo() = 2
                undo() = 1
                """);
    }

    /** All that can be refused, behind which neither the state nor the full stack is another one. */
    private static void refusedCalls() {
        Sentences.holds(TERMS, "A call that throws an exception changes nothing.", """
                addMentor(1, 0) = 0
                addTrade(1, 1, 1) = 0
                addTrade(1, 1, 1) = 1
                addTrade(1, 1, 1) = 2
                addTrade(1, 1, 1) = 3
                addTrade(1, 1, 1) = 4
                addMentor(2, 1) = 1
                addMentor(1, 1) = 2
                addMentor(1, 2) = 3
                addMentor(1, 0) = 4
                addMentor(1, 0) = 5
                addApprentice(0, 1) = 0
                addApprentice(0, 2) = 1
                addApprentice(1, 3) = 2
                addApprentice(0, -1) = 3
                credit(1, 0, 2147483647) = 2147483647
                log(1, 0, 2) = 1
                log(0, 1, 12) = 1
                log(0, 1, 1) throws IllegalStateException
                addTrade(1, 1, 1) throws IllegalStateException
                addTrade(2001, 1, 1) throws IllegalArgumentException
                addMentor(1, 1) throws IllegalStateException
                addMentor(0, 1) throws IllegalArgumentException
                addApprentice(5, -1) throws IndexOutOfBoundsException
                addApprentice(1, 1) throws IllegalStateException
                addApprentice(0, 2) throws IllegalStateException
                release(4, 1) throws IndexOutOfBoundsException
                release(0, 200) throws IllegalArgumentException
                release(0, 0) throws IllegalStateException
                log(4, 0, 1) throws IndexOutOfBoundsException
                log(2, 0, 13) throws IllegalArgumentException
                log(3, 0, 1) throws IllegalStateException
                confirm(6, 1) throws IndexOutOfBoundsException
                confirm(1, 100) throws IllegalArgumentException
                confirm(2, 1) throws IllegalStateException
                doubt(4) throws IndexOutOfBoundsException
                doubt(2) throws IllegalStateException
                settle(4, true) throws IndexOutOfBoundsException
                settle(0, false) throws IllegalStateException
                credit(4, 0, 1) throws IndexOutOfBoundsException
                credit(0, 3, 1) throws IllegalArgumentException
                credit(0, 0, -1) throws IllegalStateException
                move(4, 0) throws IndexOutOfBoundsException
                move(0, 2) throws IllegalStateException
                leave(4) throws IndexOutOfBoundsException
                leave(3) throws IllegalStateException
                exchange(4, 0) throws IndexOutOfBoundsException
                exchange(0, 0) throws IllegalArgumentException
                exchange(0, 2) throws IllegalStateException
                reason(0, 6) throws IndexOutOfBoundsException
                mentor(6, 0) throws IndexOutOfBoundsException
                apprentice(0, 12) throws IllegalArgumentException
                part(0, 3, 0) throws IllegalArgumentException
                entry(0, false, -1, 0) throws IllegalArgumentException
                whole(10) throws IllegalArgumentException
                completeOn(0, 13) throws IllegalArgumentException
                bestMentor(4) throws IndexOutOfBoundsException
                doubtsBy(0, 4) throws IndexOutOfBoundsException
                nextRelease(0, 10000) throws IllegalArgumentException
                type(128) throws IllegalArgumentException
                """);
    }

    private static void orderOfExceptions() {
        Sentences.holds(TERMS, "If several exceptions of a method apply, the one that is listed first is thrown.", """
                addTrade(1, 1, 1) = 0
                addTrade(1, 1, 1) = 1
                addTrade(1, 1, 1) = 2
                addTrade(1, 1, 1) = 3
                addTrade(1, 1, 1) = 4
                addMentor(1, 1) = 0
                addMentor(1, 1) = 1
                addMentor(1, 1) = 2
                addMentor(1, 1) = 3
                addMentor(1, 1) = 4
                addMentor(1, 1) = 5
                addTrade(1, 2001, 1) throws IllegalArgumentException    // and there are 5
                addMentor(1, 32) throws IllegalArgumentException        // and there are 6
                addApprentice(0, 0) = 0
                credit(0, 0, 2147483647) = 2147483647
                log(0, 0, 1) = 1
                release(1, 200) throws IndexOutOfBoundsException
                log(1, 3, 1) throws IndexOutOfBoundsException
                log(0, 0, 13) throws IllegalArgumentException           // and it would be 14 hours
                log(0, 3, 12) throws IllegalArgumentException
                confirm(6, 0) throws IndexOutOfBoundsException
                confirm(0, 100) throws IllegalArgumentException         // and there are too many hours
                doubt(1) throws IndexOutOfBoundsException               // and it has no pending entry
                settle(1, true) throws IndexOutOfBoundsException
                credit(1, 3, -1) throws IndexOutOfBoundsException
                credit(0, 3, -1) throws IllegalArgumentException        // and it would be below 0
                move(1, 0) throws IndexOutOfBoundsException             // and the mentor is full
                move(0, 6) throws IndexOutOfBoundsException
                leave(1) throws IndexOutOfBoundsException
                exchange(1, 1) throws IndexOutOfBoundsException         // and both are the same
                leave(0) = 0
                exchange(0, 0) throws IllegalArgumentException          // and it has no mentor
                log(0, 3, 1) throws IllegalArgumentException
                mentor(6, 5) throws IndexOutOfBoundsException
                apprentice(1, 12) throws IndexOutOfBoundsException
                part(1, 3, 5) throws IndexOutOfBoundsException
                entry(1, true, -1, 4) throws IndexOutOfBoundsException
                completeOn(1, 0) throws IndexOutOfBoundsException
                nextRelease(1, -1) throws IndexOutOfBoundsException
                """);
        Sentences.holds(TERMS, "If several exceptions of a method apply, the one that is listed first is thrown.", """
                addTrade(1, 1, 1) = 0
                addMentor(6, 1) = 0
                addMentor(6, 1) = 1
                """ + answers("pupil 0 0;pupil 0 0;pupil 0 0;pupil 0 1;pupil 0 1;", 5) + """
                runCommands() = 5
                addApprentice(1, 0) throws IndexOutOfBoundsException    // and there are 10
                addApprentice(0, 2) throws IndexOutOfBoundsException
                """ + "text \"" + " ".repeat(150) + "\" = 150\n" + """
                type(128) throws IllegalArgumentException               // and there are 150 bytes
                """);
        Sentences.holds(TERMS, "If several exceptions of a method apply, the one that is listed first is thrown.",
                TWO_APPRENTICES + answers("days 30;", 1) + "5 times runCommands() = 1\n"
                + answers("days 20;", 1) + """
                whole(3) = 200
                log(0, 0, 1) = 1
                release(0, 200) throws IllegalArgumentException         // and there is work on it
                """);
    }

    private static void none() {
        Sentences.holds(TERMS, "NONE is returned only if no exception applies.", TWO_APPRENTICES + """
                entry(0, false, 0, 0) = -1
                entry(2, false, 0, 0) throws IndexOutOfBoundsException
                entry(0, false, 0, 4) throws IllegalArgumentException
                doubtsBy(0, 0) = -1
                doubtsBy(2, 2) throws IndexOutOfBoundsException
                nextRelease(0, 0) = -1
                nextRelease(2, 0) throws IndexOutOfBoundsException
                nextRelease(0, 10000) throws IllegalArgumentException
                bestMentor(2) throws IndexOutOfBoundsException
                addTrade(2000, 2000, 2000) = 1
                addApprentice(1, -1) = 2
                bestMentor(2) = -1
                completeOn(2, 1) = -1
                completeOn(2, 0) throws IllegalArgumentException
                completeOn(3, 1) throws IndexOutOfBoundsException
                """);
        String sentence = "`NONE = -1`: Returned where there is no such value; also the mentor of an apprentice without one.";
        Script.check(Sentences.quote(TERMS, sentence), TradeLogs.NONE, -1);
        Sentences.holds(TERMS, sentence, TWO_APPRENTICES + """
                addApprentice(0, -1) = 2
                apprentice(2, 1) = -1
                apprentice(0, 1) = 0
                leave(0) = 0
                apprentice(0, 1) = -1
                mentor(-1, 0) throws IndexOutOfBoundsException          // it is no mentor's number
                reason(2, -1) throws IndexOutOfBoundsException
                move(0, -1) throws IndexOutOfBoundsException
                """);
    }
}
