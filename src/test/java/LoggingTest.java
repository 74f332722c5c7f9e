/** Promises 6 to 11: log, confirm, doubt, settle, credit, endDay. */
public final class LoggingTest {
    private static final String TWO_MENTORS = """
            addTrade(40, 30, 20) = 0
            addMentor(3, 1) = 0
            addMentor(3, 1) = 1
            addApprentice(0, 0) = 0
            addApprentice(0, 0) = 1
            addApprentice(0, 1) = 2
            """;

    public static void main(String[] arguments) {
        logs();
        logsAtMostTwentyEntries();
        confirms();
        confirmsUpToTheGreatestNumber();
        doubts();
        settles();
        credits();
        endsOfDays();
        endOfTheLastDay();
        Script.end();
    }

    private static void logs() {
        Script.run("6 log", TWO_MENTORS + """
                log(3, 0, 1) throws IndexOutOfBoundsException
                log(-1, 3, 0) throws IndexOutOfBoundsException
                log(0, -1, 1) throws IllegalArgumentException
                log(0, 3, 1) throws IllegalArgumentException
                log(0, 0, 0) throws IllegalArgumentException
                log(0, 0, 13) throws IllegalArgumentException
                log(0, 0, -2147483648) throws IllegalArgumentException
                log(0, 0, 12) = 1
                log(0, 0, 1) throws IllegalStateException     // thirteen hours on a day
                apprentice(0, 9) = 12
                apprentice(0, 8) = 1
                log(1, 1, 5) = 1
                log(1, 2, 6) = 2
                log(1, 2, 2) throws IllegalStateException
                log(1, 2, 1) = 3
                apprentice(1, 9) = 12
                apprentice(1, 8) = 1
                whole(4) = 4
                confirm(0, 99) = 4
                log(1, 2, 1) throws IllegalStateException     // confirmed, yet logged on this day
                endDay() = 0
                apprentice(1, 9) = 0
                log(1, 2, 1) = 1
                apprentice(1, 9) = 1
                apprentice(1, 8) = 2
                entry(1, false, 0, 0) = 2
                entry(1, false, 0, 1) = 1
                entry(1, false, 0, 2) = 1
                entry(1, false, 0, 3) = 0
                leave(1) = 0
                log(1, 0, 13) throws IllegalArgumentException
                log(1, 0, 1) throws IllegalStateException     // no mentor
                release(0, 1) = 1
                log(0, 0, 3) throws IllegalStateException     // a release day
                endDay() = 0
                log(0, 0, 3) = 1
                undo() = 3
                apprentice(0, 2) = 0
                apprentice(0, 9) = 0
                apprentice(0, 8) = 1
                """);
    }

    private static void logsAtMostTwentyEntries() {
        Script.run("6 log, at most 20 entries, pending or doubted", TWO_MENTORS + """
                text "log 2 0 1; log 2 1 1; log 2 2 1; log 2 0 1; log 2 1 1; log 2 2 1; log 2 0 1; log 2 1 1; log 2 2 1; log 2 0 1; days 1;" = 117
                runCommands() = 11
                runCommands() = 11
                apprentice(2, 2) = 20
                log(2, 0, 1) throws IllegalStateException
                doubt(2) = 1
                log(2, 0, 1) throws IllegalStateException
                move(2, 0) = 19
                apprentice(2, 3) = 20
                log(2, 0, 1) throws IllegalStateException
                settle(2, true) = 1
                log(2, 0, 2) = 1
                log(2, 0, 1) throws IllegalStateException
                confirm(0, 1) = 1
                log(2, 0, 1) = 1
                apprentice(2, 5) = 19
                entry(2, true, 18, 0) = 0
                entry(2, true, 18, 2) = 1
                entry(2, true, 18, 3) = 1
                entry(2, true, 19, 3) = -1
                """);
    }

    private static void confirms() {
        Script.run("7 confirm", TWO_MENTORS + """
                confirm(2, 1) throws IndexOutOfBoundsException
                confirm(-1, 0) throws IndexOutOfBoundsException
                confirm(0, 0) throws IllegalArgumentException
                confirm(0, 100) throws IllegalArgumentException
                confirm(0, 99) = 0
                log(1, 0, 2) = 1
                log(1, 2, 3) = 2
                log(0, 1, 4) = 1
                log(0, 0, 5) = 2
                log(2, 0, 6) = 1
                confirm(0, 3) = 3      // the two of apprentice 0, and the oldest of apprentice 1
                part(0, 0, 1) = 5
                part(0, 1, 1) = 4
                part(1, 0, 1) = 2
                part(1, 2, 1) = 0
                apprentice(0, 2) = 0
                apprentice(1, 2) = 1
                entry(1, false, 0, 1) = 3
                mentor(0, 4) = 3
                mentor(1, 4) = 0
                mentor(0, 3) = 1
                apprentice(2, 2) = 1
                confirm(0, 1) = 1
                part(1, 2, 1) = 3
                mentor(0, 4) = 4
                confirm(0, 1) = 0
                confirm(1, 1) = 1
                mentor(1, 4) = 1
                undo() = 3
                part(2, 0, 1) = 0
                mentor(1, 4) = 0
                apprentice(2, 2) = 1
                """);
        Script.run("7 confirm, of those whose mentor it is now alone", TWO_MENTORS + """
                log(0, 0, 1) = 1
                log(0, 1, 2) = 2
                leave(0) = 0
                confirm(0, 99) = 0     // it has left
                apprentice(0, 2) = 2
                mentor(0, 3) = 0
                move(0, 0) = 0         // back again: its entries were logged with this mentor
                mentor(0, 3) = 2
                confirm(0, 99) = 2
                part(0, 0, 1) = 1
                part(0, 1, 1) = 2
                """);
    }

    private static void confirmsUpToTheGreatestNumber() {
        Script.run("7 confirm, done hours up to 2147483647", TWO_MENTORS + """
                credit(1, 1, 2147483640) = 2147483640
                log(0, 1, 9) = 1
                log(1, 0, 3) = 1
                log(1, 1, 5) = 2
                log(1, 1, 2) = 3
                log(1, 1, 1) = 4
                confirm(0, 99) throws IllegalStateException
                confirm(0, 5) throws IllegalStateException
                part(0, 1, 1) = 0
                part(1, 0, 1) = 0
                mentor(0, 4) = 0
                confirm(0, 100) throws IllegalArgumentException
                confirm(0, 4) = 4
                part(1, 1, 1) = 2147483647
                part(0, 1, 1) = 9
                confirm(0, 99) throws IllegalStateException
                credit(1, 1, -1) = 2147483646
                confirm(0, 99) = 1
                part(1, 1, 1) = 2147483647
                """);
        for (int part = 0; part < 3; part++) {
            Script.run("7 confirm, done hours of each part", TWO_MENTORS + """
                    credit(0, PART, 2147483646) = 2147483646
                    log(0, PART, 2) = 1
                    confirm(0, 99) throws IllegalStateException
                    credit(0, PART, -1) = 2147483645
                    confirm(0, 99) = 1
                    part(0, PART, 1) = 2147483647
                    """.replace("PART", String.valueOf(part)));
        }
    }

    private static void doubts() {
        Script.run("8 doubt", TWO_MENTORS + """
                doubt(3) throws IndexOutOfBoundsException
                doubt(-1) throws IndexOutOfBoundsException
                doubt(0) throws IllegalStateException
                log(0, 1, 4) = 1
                log(0, 2, 5) = 2
                log(0, 0, 1) = 3
                doubt(0) = 4
                doubt(0) = 5
                apprentice(0, 2) = 1
                apprentice(0, 3) = 2
                entry(0, true, 0, 1) = 4      // at the end of the doubted ones
                entry(0, true, 1, 1) = 5
                entry(0, true, 1, 0) = 2
                entry(0, false, 0, 1) = 1
                leave(0) = 0
                doubt(0) throws IllegalStateException     // no mentor
                move(0, 0) = 0
                doubt(0) = 1
                doubt(0) throws IllegalStateException     // none is pending
                undo() = 3
                apprentice(0, 2) = 1
                apprentice(0, 3) = 2
                """);
    }

    private static void settles() {
        Script.run("9 settle", TWO_MENTORS + """
                settle(3, true) throws IndexOutOfBoundsException
                settle(-1, false) throws IndexOutOfBoundsException
                settle(0, true) throws IllegalStateException
                settle(0, false) throws IllegalStateException
                log(0, 1, 4) = 1
                log(0, 2, 5) = 2
                log(0, 2, 3) = 3
                settle(0, true) throws IllegalStateException
                doubt(0) = 4
                doubt(0) = 5
                doubt(0) = 3
                settle(0, true) = 4
                part(0, 1, 1) = 4
                settle(0, false) = 5
                apprentice(0, 6) = 5
                whole(8) = 5
                part(0, 2, 1) = 0
                mentor(0, 4) = 0              // accepted, not confirmed
                leave(0) = 0
                settle(0, false) = 3          // no mentor is needed
                apprentice(0, 6) = 8
                undo() = 3
                apprentice(0, 6) = 5
                credit(0, 2, 2147483644) = 2147483644
                settle(0, true) = 3
                part(0, 2, 1) = 2147483647
                undo() = 3
                credit(0, 2, 1) = 2147483645
                settle(0, true) throws IllegalStateException
                settle(0, false) = 3
                whole(8) = 8
                """);
    }

    private static void credits() {
        Script.run("10 credit", TWO_MENTORS + """
                credit(3, 0, 1) throws IndexOutOfBoundsException
                credit(-1, 3, 1) throws IndexOutOfBoundsException
                credit(0, -1, 1) throws IllegalArgumentException
                credit(0, 3, -1) throws IllegalArgumentException
                credit(0, 0, -1) throws IllegalStateException
                credit(0, 0, -2147483648) throws IllegalStateException
                credit(0, 0, 0) = 0
                credit(0, 0, 7) = 7
                credit(0, 0, -8) throws IllegalStateException
                credit(0, 0, -3) = 4
                credit(0, 0, 2147483647) throws IllegalStateException
                credit(0, 0, 2147483643) = 2147483647
                credit(0, 0, 1) throws IllegalStateException
                credit(0, 1, 5) = 5
                credit(0, 2, 6) = 6
                part(0, 1, 1) = 5
                part(1, 0, 1) = 0
                credit(0, 0, -2147483647) = 0
                undo() = 3
                part(0, 0, 1) = 2147483647
                """);
    }

    private static void endsOfDays() {
        Script.run("11 endDay", TWO_MENTORS + """
                log(0, 0, 1) = 1
                log(1, 0, 2) = 1
                log(2, 1, 3) = 1
                endDay() = 0
                log(1, 0, 4) = 2
                whole(3) = 1
                apprentice(0, 9) = 0
                text "days 12;" = 8
                runCommands() = 1
                whole(3) = 13
                endDay() = 0                  // day 13: no entry is 14 days old
                whole(3) = 14
                leave(0) = 0                  // without a mentor it is doubted all the same
                doubt(1) = 2
                endDay() = 2                  // day 14: those of day 0
                whole(4) = 1
                whole(5) = 3
                apprentice(0, 3) = 1
                apprentice(2, 3) = 1
                entry(1, false, 0, 1) = 4
                endDay() = 1                  // day 15: that of day 1
                entry(1, true, 0, 1) = 2
                entry(1, true, 1, 1) = 4
                endDay() = 0
                whole(3) = 17
                undo() = 3
                undo() = 2
                undo() = 1
                whole(3) = 14
                whole(4) = 3
                """);
        Script.run("11 endDay, several entries of a day keep their order", TWO_MENTORS + """
                log(0, 2, 3) = 1
                log(0, 1, 2) = 2
                log(0, 0, 1) = 3
                text "days 14;" = 8
                runCommands() = 1
                log(0, 0, 5) = 4
                endDay() = 3
                entry(0, true, 0, 0) = 2
                entry(0, true, 1, 0) = 1
                entry(0, true, 2, 0) = 0
                apprentice(0, 2) = 1
                entry(0, false, 0, 1) = 5
                entry(0, false, 0, 2) = 14
                """);
    }

    private static void endOfTheLastDay() {
        Script.run("11 endDay, near the last day", """
                text "days 30;" = 8
                333 times runCommands() = 1
                whole(3) = 9990
                text "days 8;" = 7
                runCommands() = 1
                whole(3) = 9998
                endDay() = 0
                whole(3) = 9999
                endDay() throws IllegalStateException
                whole(3) = 9999
                undo() = 3
                endDay() = 0
                """);
    }
}
