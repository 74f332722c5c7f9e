/** Promises 1 to 5: a new object, trades, mentors, apprentices, release days. */
public final class TradesTest {
    public static void main(String[] arguments) {
        newObject();
        trades();
        mentors();
        apprentices();
        releases();
        Script.end();
    }

    private static void newObject() {
        Script.run("1 a new object", """
                whole(0) = 0
                whole(1) = 0
                whole(2) = 0
                whole(3) = 0
                whole(4) = 0
                whole(5) = 0
                whole(6) = 0
                whole(7) = 0
                whole(8) = 0
                whole(9) = 0
                clearCommands() = 0
                undo() throws IllegalStateException
                apprentice(0, 0) throws IndexOutOfBoundsException
                mentor(0, 0) throws IndexOutOfBoundsException
                addApprentice(0, -1) throws IndexOutOfBoundsException
                """);
        Script.check("1 NONE", TradeLogs.NONE, -1);
    }

    private static void trades() {
        Script.run("2 addTrade", """
                addTrade(-1, 0, 0) throws IllegalArgumentException
                addTrade(0, -1, 0) throws IllegalArgumentException
                addTrade(0, 0, -1) throws IllegalArgumentException
                addTrade(2001, 0, 0) throws IllegalArgumentException
                addTrade(0, 2001, 0) throws IllegalArgumentException
                addTrade(0, 0, 2001) throws IllegalArgumentException
                addTrade(-2147483648, 2147483647, 0) throws IllegalArgumentException
                addTrade(2000, 1, 0) = 0
                whole(0) = 1
                addTrade(0, 2000, 3) = 1
                addTrade(5, 6, 2000) = 2
                addTrade(0, 0, 0) = 3
                addTrade(7, 8, 9) = 4
                whole(0) = 5
                addTrade(0, 0, 2001) throws IllegalArgumentException
                addTrade(0, 0, 0) throws IllegalStateException
                addApprentice(0, -1) = 0
                addApprentice(2, -1) = 1
                addApprentice(4, -1) = 2
                part(0, 0, 0) = 2000
                part(0, 1, 0) = 1
                part(0, 2, 0) = 0
                part(1, 0, 0) = 5
                part(1, 1, 0) = 6
                part(1, 2, 0) = 2000
                part(2, 2, 0) = 9
                undo() = 3
                undo() = 2
                undo() = 1
                undo() = 0
                whole(0) = 4      // the fifth trade went with the fourth undo
                """);
    }

    private static void mentors() {
        Script.run("3 addMentor", """
                addMentor(0, 0) throws IllegalArgumentException
                addMentor(7, 0) throws IllegalArgumentException
                addMentor(1, -1) throws IllegalArgumentException
                addMentor(1, 32) throws IllegalArgumentException
                addMentor(-2147483648, 2147483647) throws IllegalArgumentException
                addMentor(1, 0) = 0
                addMentor(6, 31) = 1
                addMentor(3, 5) = 2
                mentor(0, 0) = 1
                mentor(0, 1) = 0
                mentor(1, 0) = 6
                mentor(1, 1) = 31
                mentor(2, 0) = 3
                mentor(2, 1) = 5
                mentor(2, 4) = 0
                addMentor(1, 1) = 3
                addMentor(1, 1) = 4
                addMentor(1, 1) = 5
                whole(1) = 6
                addMentor(7, 1) throws IllegalArgumentException
                addMentor(1, 1) throws IllegalStateException
                undo() = 3
                whole(1) = 5
                mentor(5, 0) throws IndexOutOfBoundsException
                addTrade(1, 1, 1) = 0      // mentor 1 taught it before it was there
                addApprentice(0, 1) = 0
                """);
    }

    private static void apprentices() {
        Script.run("4 addApprentice", """
                addTrade(1, 1, 1) = 0
                addTrade(2, 2, 2) = 1
                addMentor(2, 1) = 0
                addMentor(1, 2) = 1
                addApprentice(2, -1) throws IndexOutOfBoundsException
                addApprentice(-1, -1) throws IndexOutOfBoundsException
                addApprentice(0, 2) throws IndexOutOfBoundsException
                addApprentice(0, -2) throws IndexOutOfBoundsException
                addApprentice(1, 0) throws IllegalStateException
                addApprentice(0, 1) throws IllegalStateException
                addApprentice(0, 0) = 0
                addApprentice(0, 0) = 1
                addApprentice(0, 0) throws IllegalStateException
                addApprentice(1, 1) = 2
                addApprentice(1, 1) throws IllegalStateException
                addApprentice(1, -1) = 3
                apprentice(0, 0) = 0
                apprentice(0, 1) = 0
                apprentice(2, 0) = 1
                apprentice(2, 1) = 1
                apprentice(3, 0) = 1
                apprentice(3, 1) = -1
                mentor(0, 2) = 2
                mentor(1, 2) = 1
                whole(2) = 4
                whole(7) = 1
                leave(0) = 0
                addApprentice(0, 0) = 4       // the place is free again
                addApprentice(0, -1) = 5
                addApprentice(0, -1) = 6
                addApprentice(0, -1) = 7
                addApprentice(0, -1) = 8
                addApprentice(0, -1) = 9
                addApprentice(0, -1) throws IllegalStateException
                addApprentice(0, 6) throws IndexOutOfBoundsException
                undo() = 3
                whole(2) = 9
                apprentice(9, 0) throws IndexOutOfBoundsException
                """);
        Script.run("4 a number that was used before undo stands for a new one", """
                addTrade(1, 1, 1) = 0
                text "mentor 5 1;mentor 6 1;pupil 0 0;log 0 1 3;doubt 0;refuse 0;log 0 2 4;log 0 0 1;log 0 1 1;confirm 0;" = 99
                runCommands() = 10
                mentor(0, 4) = 3
                apprentice(0, 6) = 3
                undo() = 1
                text "mentor 5 1;mentor 6 1;pupil 0 0;log 0 1 3;log 0 1 4;doubt 0;free 0 7;free 0 199;move 0 1;" = 89
                runCommands() = 9
                apprentice(0, 3) = 2
                undo() = 1
                text "mentor 5 1;pupil 0 0;log 0 1 3;log 0 1 4;free 0 0;" = 50
                runCommands() = 4
                apprentice(0, 2) = 2
                undo() = 1
                whole(1) = 0
                whole(2) = 0
                addMentor(2, 1) = 0
                mentor(0, 4) = 0
                mentor(0, 0) = 2
                addApprentice(0, 0) = 0
                apprentice(0, 1) = 0
                whole(8) = 0
                apprentice(0, 2) = 0
                apprentice(0, 3) = 0
                apprentice(0, 6) = 0
                apprentice(0, 7) = 0
                apprentice(0, 8) = 0
                apprentice(0, 9) = 0
                apprentice(0, 10) = 0
                part(0, 0, 1) = 0
                part(0, 1, 1) = 0
                part(0, 2, 1) = 0
                nextRelease(0, 0) = -1
                release(0, 0) = 1
                """);
        Script.run("4 part values of a number that was used before undo", """
                addTrade(5, 5, 5) = 0
                addMentor(2, 1) = 0
                text "pupil 0 0;log 0 0 1;log 0 1 2;log 0 2 3;confirm 0;" = 50
                runCommands() = 5
                part(0, 0, 1) = 1
                part(0, 1, 1) = 2
                part(0, 2, 1) = 3
                undo() = 2
                addApprentice(0, 0) = 0
                part(0, 0, 1) = 0
                part(0, 1, 1) = 0
                part(0, 2, 1) = 0
                log(0, 0, 12) = 1
                apprentice(0, 8) = 1
                """);
    }

    private static void releases() {
        Script.run("5 release", """
                release(0, 0) throws IndexOutOfBoundsException
                addTrade(1, 1, 1) = 0
                addMentor(2, 1) = 0
                addApprentice(0, 0) = 0
                addApprentice(0, 0) = 1
                release(2, 0) throws IndexOutOfBoundsException
                release(-1, 200) throws IndexOutOfBoundsException
                release(0, -1) throws IllegalArgumentException
                release(0, 200) throws IllegalArgumentException
                release(0, 2147483647) throws IllegalArgumentException
                release(0, 199) = 1
                release(0, 199) = 1       // a set: it has the day already
                release(0, 63) = 2
                release(0, 64) = 3
                release(0, 127) = 4
                release(0, 128) = 5
                apprentice(0, 7) = 5
                apprentice(1, 7) = 0
                log(0, 0, 1) = 1
                release(0, 0) throws IllegalStateException
                release(1, 0) = 1         // the other one has not worked
                log(1, 0, 1) throws IllegalStateException
                endDay() = 0
                log(1, 0, 1) = 1
                release(0, 0) throws IllegalStateException
                release(0, 1) = 6
                release(1, 1) throws IllegalStateException
                confirm(0, 99) = 2
                release(0, 0) throws IllegalStateException   // confirmed, yet it was logged
                log(0, 0, 1) throws IllegalStateException
                endDay() = 0
                release(0, 0) throws IllegalStateException
                release(1, 0) = 1         // a day that is over
                release(0, 2) = 7
                undo() = 3
                apprentice(0, 7) = 6
                nextRelease(0, 2) = 63
                """);
    }
}
