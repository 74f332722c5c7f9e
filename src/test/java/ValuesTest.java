/** Promises 16 to 20: mentor, apprentice, part, entry, whole. */
public final class ValuesTest {
    // Every value that can be asked for is another one than its neighbours.
    private static final String BUSY = """
            addTrade(30, 20, 10) = 0
            addTrade(0, 0, 4) = 1
            addMentor(4, 3) = 0
            addMentor(5, 2) = 1
            addApprentice(0, 0) = 0
            addApprentice(1, 1) = 1
            addApprentice(1, 0) = 2
            addApprentice(1, -1) = 3
            release(0, 150) = 1
            release(0, 40) = 2
            release(0, 41) = 3
            log(0, 0, 7) = 1
            log(0, 1, 4) = 2
            endDay() = 0
            log(0, 2, 6) = 3
            log(0, 2, 3) = 4
            doubt(0) = 7
            log(1, 2, 5) = 1
            log(2, 2, 2) = 1
            endDay() = 0
            confirm(1, 9) = 1
            log(0, 1, 1) = 4
            log(0, 0, 2) = 5
            log(0, 0, 2) = 6
            doubt(0) = 4
            doubt(0) = 6
            settle(0, false) = 7
            """;

    public static void main(String[] arguments) {
        valuesOfMentors();
        valuesOfApprentices();
        valuesOfParts();
        valuesOfEntries();
        valuesOfTheWhole();
        Script.end();
    }

    private static void valuesOfMentors() {
        Script.run("16 mentor", BUSY + """
                mentor(0, 0) = 4
                mentor(0, 1) = 3
                mentor(0, 2) = 2
                mentor(0, 3) = 5
                mentor(0, 4) = 0
                mentor(1, 0) = 5
                mentor(1, 1) = 2
                mentor(1, 2) = 1
                mentor(1, 3) = 0
                mentor(1, 4) = 1
                leave(2) = 0
                mentor(0, 2) = 1
                mentor(0, 3) = 4              // pending ones of its apprentices alone
                mentor(2, 0) throws IndexOutOfBoundsException
                mentor(-1, 5) throws IndexOutOfBoundsException
                mentor(0, -1) throws IllegalArgumentException
                mentor(0, 5) throws IllegalArgumentException
                mentor(0, 2147483647) throws IllegalArgumentException
                """);
    }

    private static void valuesOfApprentices() {
        Script.run("17 apprentice", BUSY + """
                apprentice(0, 0) = 0
                apprentice(0, 1) = 0
                apprentice(0, 2) = 4
                apprentice(0, 3) = 2
                apprentice(0, 4) = 8
                apprentice(0, 5) = 10
                apprentice(0, 6) = 7
                apprentice(0, 7) = 3
                apprentice(0, 8) = 3
                apprentice(0, 9) = 5
                apprentice(0, 10) = 0
                apprentice(0, 11) = 0
                apprentice(1, 0) = 1
                apprentice(1, 1) = 1
                apprentice(1, 11) = 1         // five of four hours that are needed
                apprentice(2, 11) = 0         // pending hours do not count
                apprentice(3, 1) = -1
                move(3, 0) = 0
                exchange(3, 1) = 0
                apprentice(3, 10) = 2
                apprentice(3, 1) = 1
                apprentice(4, 0) throws IndexOutOfBoundsException
                apprentice(-1, 12) throws IndexOutOfBoundsException
                apprentice(0, -1) throws IllegalArgumentException
                apprentice(0, 12) throws IllegalArgumentException
                """);
    }

    private static void valuesOfParts() {
        Script.run("18 part", BUSY + """
                part(0, 0, 0) = 30
                part(0, 0, 1) = 0
                part(0, 0, 2) = 30
                part(0, 0, 3) = 4
                part(0, 0, 4) = 0
                part(0, 1, 0) = 20
                part(0, 1, 3) = 1
                part(0, 1, 4) = 4
                part(0, 2, 0) = 10
                part(0, 2, 3) = 3
                part(0, 2, 4) = 6
                part(1, 2, 0) = 4
                part(1, 2, 1) = 5
                part(1, 2, 2) = 0             // not below 0
                credit(0, 1, 19) = 19
                part(0, 1, 2) = 1
                credit(0, 1, 1) = 20
                part(0, 1, 2) = 0
                credit(0, 1, 2147483627) = 2147483647
                part(0, 1, 2) = 0
                apprentice(0, 11) = 0
                credit(0, 0, 30) = 30
                credit(0, 2, 9) = 9
                apprentice(0, 11) = 0
                credit(0, 2, 1) = 10
                apprentice(0, 11) = 1
                whole(6) = 2
                credit(0, 0, -1) = 29
                apprentice(0, 11) = 0
                credit(0, 0, 1) = 30
                credit(0, 1, -2147483628) = 19
                apprentice(0, 11) = 0
                part(4, 0, 0) throws IndexOutOfBoundsException
                part(-1, 3, 5) throws IndexOutOfBoundsException
                part(0, -1, 0) throws IllegalArgumentException
                part(0, 3, 0) throws IllegalArgumentException
                part(0, 0, -1) throws IllegalArgumentException
                part(0, 0, 5) throws IllegalArgumentException
                """);
    }

    private static void valuesOfEntries() {
        Script.run("19 entry", BUSY + """
                entry(0, false, 0, 0) = 2
                entry(0, false, 0, 1) = 3
                entry(0, false, 0, 2) = 1
                entry(0, false, 0, 3) = 0
                entry(0, false, 1, 0) = 1
                entry(0, false, 1, 1) = 1
                entry(0, false, 1, 2) = 2
                entry(0, false, 3, 0) = 0
                entry(0, false, 3, 1) = 2
                entry(0, false, 4, 1) = -1
                entry(0, false, 2147483647, 3) = -1
                entry(0, true, 0, 0) = 1
                entry(0, true, 0, 1) = 4
                entry(0, true, 0, 2) = 0
                entry(0, true, 1, 0) = 2
                entry(0, true, 1, 1) = 6
                entry(0, true, 1, 2) = 1
                entry(0, true, 2, 0) = -1
                entry(1, true, 0, 0) = -1
                move(2, 1) = 1
                entry(2, true, 0, 3) = 0      // the mentor at that time
                entry(4, false, 0, 0) throws IndexOutOfBoundsException
                entry(-1, false, -1, 4) throws IndexOutOfBoundsException
                entry(0, false, -1, 0) throws IllegalArgumentException
                entry(0, true, -2147483648, 0) throws IllegalArgumentException
                entry(0, false, 0, -1) throws IllegalArgumentException
                entry(0, false, 0, 4) throws IllegalArgumentException
                entry(0, false, 99, 4) throws IllegalArgumentException
                """);
    }

    private static void valuesOfTheWhole() {
        Script.run("20 whole", BUSY + """
                whole(0) = 2
                whole(1) = 2
                whole(2) = 4
                whole(3) = 2
                whole(4) = 5
                whole(5) = 2
                whole(6) = 1
                whole(7) = 1
                whole(8) = 7
                whole(9) = 0
                doubt(2) = 2
                settle(2, false) = 2
                whole(4) = 4
                whole(8) = 9
                type(59) = 1
                type(0) = 2
                whole(9) = 2
                leave(1) = 1
                whole(7) = 2
                credit(3, 2, 4) = 4
                whole(6) = 2
                whole(-1) throws IllegalArgumentException
                whole(10) throws IllegalArgumentException
                """);
    }
}
