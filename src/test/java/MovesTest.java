/** Promises 12 to 15: move, leave, exchange, reason. */
public final class MovesTest {
    private static final String THREE_MENTORS = """
            addTrade(4, 4, 4) = 0
            addTrade(5, 5, 5) = 1
            addMentor(2, 1) = 0
            addMentor(1, 3) = 1
            addMentor(2, 3) = 2
            addApprentice(0, 0) = 0
            addApprentice(0, 1) = 1
            addApprentice(1, 2) = 2
            addApprentice(0, -1) = 3
            """;

    public static void main(String[] arguments) {
        moves();
        leaves();
        exchanges();
        reasons();
        Script.end();
    }

    private static void moves() {
        Script.run("12 move", THREE_MENTORS + """
                move(4, 0) throws IndexOutOfBoundsException
                move(-1, 0) throws IndexOutOfBoundsException
                move(0, 3) throws IndexOutOfBoundsException
                move(0, -1) throws IndexOutOfBoundsException
                move(0, 0) throws IllegalStateException       // it has this mentor
                move(2, 0) throws IllegalStateException       // not taught
                move(0, 1) throws IllegalStateException       // full
                log(0, 0, 1) = 1
                log(0, 1, 2) = 2
                log(0, 2, 3) = 3
                doubt(0) = 1
                move(0, 2) = 2
                apprentice(0, 1) = 2
                apprentice(0, 2) = 0
                apprentice(0, 3) = 3
                apprentice(0, 10) = 1
                entry(0, true, 0, 1) = 1
                entry(0, true, 1, 1) = 2
                entry(0, true, 2, 1) = 3
                entry(0, true, 2, 3) = 0
                mentor(0, 2) = 0
                mentor(2, 2) = 2
                move(3, 2) throws IllegalStateException       // full by now
                move(3, 0) = 0                                // it had none
                apprentice(3, 10) = 1
                undo() = 3
                apprentice(3, 1) = -1
                apprentice(3, 10) = 0
                undo() = 2
                apprentice(0, 1) = 0
                apprentice(0, 2) = 2
                apprentice(0, 10) = 0
                """);
        Script.run("12 move, what was logged with the new mentor stays pending", THREE_MENTORS + """
                log(0, 0, 1) = 1
                leave(0) = 0
                move(0, 2) = 1
                log(0, 1, 2) = 1
                leave(0) = 2
                move(0, 2) = 0
                apprentice(0, 2) = 1
                apprentice(0, 10) = 2
                confirm(2, 99) = 1
                """);
    }

    private static void leaves() {
        Script.run("13 leave", THREE_MENTORS + """
                leave(4) throws IndexOutOfBoundsException
                leave(-1) throws IndexOutOfBoundsException
                leave(3) throws IllegalStateException
                log(2, 0, 1) = 1
                leave(2) = 2
                apprentice(2, 1) = -1
                apprentice(2, 2) = 1          // nothing is doubted
                apprentice(2, 3) = 0
                apprentice(2, 10) = 0         // it is no move
                entry(2, false, 0, 3) = 2
                mentor(2, 2) = 0
                whole(7) = 2
                leave(2) throws IllegalStateException
                undo() = 3
                apprentice(2, 1) = 2
                """);
    }

    private static void exchanges() {
        Script.run("14 exchange", THREE_MENTORS + """
                exchange(4, 0) throws IndexOutOfBoundsException
                exchange(0, 4) throws IndexOutOfBoundsException
                exchange(-1, -1) throws IndexOutOfBoundsException
                exchange(0, 0) throws IllegalArgumentException
                exchange(3, 3) throws IllegalArgumentException
                exchange(0, 3) throws IllegalStateException   // one has no mentor
                exchange(3, 0) throws IllegalStateException
                exchange(0, 2) throws IllegalStateException   // mentor 0 does not teach trade 1
                exchange(2, 0) throws IllegalStateException
                log(0, 0, 1) = 1
                log(0, 1, 2) = 2
                log(1, 2, 3) = 1
                exchange(0, 1) = 3            // mentor 1 is full: the ratios do not matter
                apprentice(0, 1) = 1
                apprentice(1, 1) = 0
                apprentice(0, 3) = 2
                apprentice(1, 3) = 1
                apprentice(0, 10) = 1
                apprentice(1, 10) = 1
                apprentice(2, 10) = 0
                entry(0, true, 0, 1) = 1
                entry(0, true, 1, 1) = 2
                exchange(1, 0) = 0
                apprentice(0, 1) = 0
                apprentice(0, 10) = 2
                exchange(1, 2) = 0            // two trades, and mentors that teach both
                apprentice(1, 1) = 2
                apprentice(2, 1) = 1
                undo() = 3
                apprentice(1, 1) = 1
                apprentice(2, 1) = 2
                move(3, 0) = 0
                exchange(0, 3) throws IllegalStateException   // they have the same mentor
                """);
    }

    private static void reasons() {
        Script.run("15 reason", THREE_MENTORS + """
                reason(4, 0) throws IndexOutOfBoundsException
                reason(-1, 0) throws IndexOutOfBoundsException
                reason(0, 3) throws IndexOutOfBoundsException
                reason(0, -1) throws IndexOutOfBoundsException
                reason(0, 0) = 1
                reason(1, 1) = 1              // full, too, with itself: the first reason counts
                reason(2, 0) = 2
                reason(0, 1) = 3
                reason(0, 2) = 0
                reason(3, 0) = 0
                reason(3, 1) = 3
                leave(1) = 1
                reason(1, 1) = 0
                reason(0, 1) = 0
                addMentor(1, 1) = 3
                addApprentice(0, 3) = 4
                reason(2, 3) = 2              // full, too
                """);
    }
}
