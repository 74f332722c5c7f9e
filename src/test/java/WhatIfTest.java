/** Promises 21 to 24: completeOn, bestMentor, doubtsBy, nextRelease. */
public final class WhatIfTest {
    public static void main(String[] arguments) {
        completions();
        completionsFarAhead();
        completionAtTheLastDays();
        bestMentors();
        doubtsOfExchanges();
        nextReleases();
        Script.end();
    }

    private static void completions() {
        Script.run("21 completeOn", """
                completeOn(0, 1) throws IndexOutOfBoundsException
                addTrade(10, 0, 5) = 0
                addMentor(3, 1) = 0
                addApprentice(0, 0) = 0
                addApprentice(0, -1) = 1
                completeOn(2, 0) throws IndexOutOfBoundsException
                completeOn(-1, 13) throws IndexOutOfBoundsException
                completeOn(0, 0) throws IllegalArgumentException
                completeOn(0, 13) throws IllegalArgumentException
                completeOn(0, 12) = 1
                completeOn(0, 5) = 2
                completeOn(0, 4) = 3
                completeOn(0, 1) = 14
                completeOn(1, 5) = 2          // without a mentor, too
                log(0, 0, 12) = 1             // two hours more than are needed are lost
                completeOn(0, 5) = 0
                completeOn(0, 4) = 1
                endDay() = 0
                completeOn(0, 5) = 1
                completeOn(0, 4) = 2
                log(0, 1, 9) = 2              // no hours are missing in this part
                completeOn(0, 4) = 2          // whatever it has logged on this day
                log(0, 2, 3) = 3
                completeOn(0, 1) = 2
                completeOn(0, 2) = 1
                doubt(0) = 12                 // doubted hours do not count
                completeOn(0, 6) = 2
                completeOn(0, 12) = 1
                release(0, 2) = 1
                completeOn(0, 6) = 3
                release(1, 1) = 1             // this day is a release day
                completeOn(1, 12) = 3
                credit(1, 0, 10) = 10
                completeOn(1, 5) = 2
                credit(1, 2, 5) = 5
                completeOn(1, 1) = 1          // complete, though on a release day
                credit(0, 1, 2147483647) = 2147483647
                credit(0, 0, 2147483647) = 2147483647
                completeOn(0, 2) = 1
                """);
        Script.run("21 completeOn, by the pending entries already", """
                addTrade(4, 0, 2) = 0
                addMentor(1, 1) = 0
                addApprentice(0, 0) = 0
                log(0, 0, 4) = 1
                log(0, 2, 2) = 2
                apprentice(0, 11) = 0
                completeOn(0, 1) = 0
                endDay() = 0
                release(0, 1) = 1
                completeOn(0, 1) = 1
                credit(0, 2, 1) = 1
                addTrade(1, 0, 0) = 1
                addApprentice(1, -1) = 1
                completeOn(1, 1) = 1          // one hour is missing
                release(1, 1) = 1
                release(1, 2) = 2
                completeOn(1, 12) = 3
                """);
    }

    private static void completionsFarAhead() {
        Script.run("21 completeOn, 2000 days ahead", """
                addTrade(2000, 0, 0) = 0
                addTrade(2000, 1, 0) = 1
                addTrade(2000, 2000, 2000) = 2
                addApprentice(0, -1) = 0
                addApprentice(1, -1) = 1
                addApprentice(2, -1) = 2
                completeOn(0, 1) = 1999
                completeOn(1, 1) = -1
                completeOn(1, 2) = 1000
                completeOn(2, 3) = 1999
                completeOn(2, 2) = -1
                completeOn(2, 12) = 499
                endDay() = 0
                completeOn(0, 1) = 2000
                completeOn(1, 1) = -1
                release(0, 0) = 1
                completeOn(0, 1) = 2000       // a day that is over
                release(0, 199) = 2
                completeOn(0, 1) = -1
                completeOn(0, 2) = 1001
                """);
    }

    private static void completionAtTheLastDays() {
        Script.run("21 completeOn, near the last day", """
                addTrade(2000, 0, 0) = 0
                addApprentice(0, -1) = 0
                text "days 30;" = 8
                333 times runCommands() = 1
                whole(3) = 9990
                completeOn(0, 1) = 11989
                """);
    }

    private static void bestMentors() {
        Script.run("22 bestMentor", """
                bestMentor(0) throws IndexOutOfBoundsException
                addTrade(1, 1, 1) = 0
                addTrade(1, 1, 1) = 1
                addApprentice(0, -1) = 0
                bestMentor(0) = -1
                addMentor(1, 2) = 0
                bestMentor(0) = -1            // it does not teach the trade
                addMentor(1, 1) = 1
                bestMentor(0) = 1
                addMentor(2, 1) = 2
                addMentor(4, 1) = 3
                addMentor(4, 1) = 4
                bestMentor(0) = 3             // of several the lowest one
                addApprentice(0, 3) = 1
                bestMentor(0) = 4
                addApprentice(0, 4) = 2
                bestMentor(0) = 2             // 1/2, and 2/4 at two others
                addApprentice(0, 2) = 3
                bestMentor(0) = 3             // 2/4 before 2/2
                addApprentice(0, 3) = 4
                bestMentor(0) = 4
                addApprentice(0, 4) = 5
                bestMentor(0) = 3             // 3/4, before 2/2 and 1/1
                bestMentor(1) = 4             // 3/4: it has mentor 3 already
                addApprentice(0, 3) = 6
                addApprentice(0, 4) = 7
                bestMentor(0) = 1             // 1/1, as 2/2 and 4/4
                move(0, 1) = 0
                bestMentor(0) = 2
                bestMentor(3) = 3             // mentor 1 is full, mentor 2 is its own
                bestMentor(8) throws IndexOutOfBoundsException
                bestMentor(-1) throws IndexOutOfBoundsException
                """);
        Script.run("22 bestMentor, fractions and not what they are rounded to", """
                addTrade(1, 1, 1) = 0
                addMentor(5, 1) = 0
                addMentor(6, 1) = 1
                addApprentice(0, -1) = 0
                bestMentor(0) = 1             // 1/6 before 1/5
                addApprentice(0, 1) = 1
                bestMentor(0) = 0             // 1/5 before 2/6
                addApprentice(0, 0) = 2
                bestMentor(0) = 1             // 2/6 before 2/5
                addApprentice(0, 1) = 3
                bestMentor(0) = 0             // 2/5 before 3/6
                """);
    }

    private static void doubtsOfExchanges() {
        Script.run("23 doubtsBy", """
                addTrade(1, 1, 1) = 0
                addTrade(1, 1, 1) = 1
                addMentor(1, 1) = 0
                addMentor(1, 3) = 1
                addMentor(2, 3) = 2
                addApprentice(0, 0) = 0
                addApprentice(0, 1) = 1
                addApprentice(1, 2) = 2
                addApprentice(0, 2) = 3
                addApprentice(0, -1) = 4
                doubtsBy(5, 0) throws IndexOutOfBoundsException
                doubtsBy(0, 5) throws IndexOutOfBoundsException
                doubtsBy(-1, -1) throws IndexOutOfBoundsException
                doubtsBy(0, 1) = 0
                doubtsBy(0, 0) = -1
                doubtsBy(4, 4) = -1
                doubtsBy(0, 4) = -1
                doubtsBy(4, 0) = -1
                doubtsBy(2, 3) = -1           // the same mentor
                doubtsBy(0, 2) = -1           // mentor 0 does not teach trade 1
                doubtsBy(2, 0) = -1
                doubtsBy(1, 2) = 0
                log(0, 0, 1) = 1
                log(0, 1, 1) = 2
                log(1, 2, 1) = 1
                doubtsBy(0, 1) = 3
                doubtsBy(1, 0) = 3
                doubtsBy(0, 3) = 2
                doubtsBy(1, 3) = 1
                doubt(0) = 1
                doubtsBy(0, 1) = 2            // what is doubted does not become so
                exchange(0, 1) = 2
                doubtsBy(0, 1) = 0
                """);
    }

    private static void nextReleases() {
        Script.run("24 nextRelease", """
                nextRelease(0, 0) throws IndexOutOfBoundsException
                addTrade(1, 1, 1) = 0
                addApprentice(0, -1) = 0
                addApprentice(0, -1) = 1
                nextRelease(2, -1) throws IndexOutOfBoundsException
                nextRelease(-1, 0) throws IndexOutOfBoundsException
                nextRelease(0, -1) throws IllegalArgumentException
                nextRelease(0, 10000) throws IllegalArgumentException
                nextRelease(0, 0) = -1
                release(0, 64) = 1
                release(0, 63) = 2
                release(0, 199) = 3
                release(0, 5) = 4
                nextRelease(0, 0) = 5
                nextRelease(0, 5) = 5
                nextRelease(0, 6) = 63
                nextRelease(0, 64) = 64
                nextRelease(0, 65) = 199
                nextRelease(0, 199) = 199
                nextRelease(0, 200) = -1
                nextRelease(0, 9999) = -1
                nextRelease(1, 0) = -1
                release(1, 0) = 1
                nextRelease(1, 0) = 0
                nextRelease(1, 1) = -1
                """);
    }
}
