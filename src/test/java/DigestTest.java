import java.math.BigInteger;
import java.util.ArrayList;
import java.util.List;

/** Promise 29: digest. */
public final class DigestTest {
    public static void main(String[] arguments) {
        emptyObject();
        busyObject();
        Script.end();
    }

    /** The hash of some values, in numbers without a bound, cut to a long at the end. */
    private static long hashOf(List<Integer> values) {
        BigInteger hash = BigInteger.valueOf(43434);
        for (int value : values) {
            hash = hash.multiply(BigInteger.valueOf(31)).add(BigInteger.valueOf(value));
        }
        return hash.longValue();
    }

    private static void emptyObject() {
        TradeLogs logs = new TradeLogs();
        Script.check("29 digest of a new object", logs.digest(),
                hashOf(List.of(0, 0, 0, 0, 0, 0, 0, 0, 0, 0, 0)));
        logs.type(32);
        Script.check("29 digest, a byte was typed", logs.digest(),
                hashOf(List.of(0, 0, 0, 0, 0, 0, 0, 0, 0, 0, 1)));
        logs.addMentor(3, 7);
        logs.addMentor(2, 1);
        logs.endDay();
        Script.check("29 digest of mentors", logs.digest(), hashOf(List.of(
                3, 0, 2, 0, 1, 0, 0, 0, 0, 0, 1, 3, 7, 0, 0, 0, 2, 1, 0, 0, 0)));
        logs.undo();
        Script.check("29 digest after undo", logs.digest(), hashOf(List.of(
                2, 0, 2, 0, 0, 0, 0, 0, 0, 0, 1, 3, 7, 0, 0, 0, 2, 1, 0, 0, 0)));
    }

    private static void busyObject() {
        TradeLogs logs = Script.run("29 digest", """
                addTrade(30, 20, 1) = 0
                addTrade(0, 0, 0) = 1
                addMentor(3, 3) = 0
                addMentor(4, 1) = 1
                addApprentice(0, 0) = 0
                addApprentice(1, -1) = 1
                addApprentice(0, 1) = 2
                release(0, 9) = 1
                log(0, 0, 1) = 1
                log(0, 1, 2) = 2
                log(0, 2, 3) = 3
                log(2, 0, 4) = 1
                endDay() = 0
                doubt(0) = 1
                settle(0, false) = 1
                doubt(0) = 2
                log(0, 0, 5) = 2
                log(2, 1, 6) = 2
                confirm(1, 1) = 1
                type(100) = 1
                type(97) = 2
                """);
        Script.check("29 digest of every value", logs.digest(), hashOf(everyValue(0, -1)));
        Script.check("29 digest again", logs.digest(), hashOf(everyValue(0, -1)));
        logs.release(1, 0);
        Script.check("29 digest with a release on day 0", logs.digest(), hashOf(everyValue(1, 0)));
    }

    /** The values in their order, with the release days of apprentice 1 and its first one. */
    private static List<Integer> everyValue(int releases, int firstRelease) {
        List<Integer> values = new ArrayList<>(List.of(
                4, 2, 2, 3, 1, 3, 1, 1, 1, 1, 2,       // the stack, then the whole
                3, 3, 1, 2, 0,  4, 1, 1, 1, 1));       // the mentors
        values.addAll(List.of(
                0, 0, 2, 1, 8, 2, 1, 1, 2, 5, 0, 0,    // apprentice 0
                30, 0, 30, 5, 0,  20, 0, 20, 0, 2,  1, 0, 1, 3, 0,
                2, 3, 0, 0,  0, 5, 1, 0,  1, 2, 0, 0,  // entries: two pending, one doubted
                1, 9));                                // the best mentor, the first release day
        values.addAll(List.of(
                1, -1, 0, 0, 0, 0, 0, releases, 0, 0, 0, 1,
                0, 0, 0, 0, 0,  0, 0, 0, 0, 0,  0, 0, 0, 0, 0,
                0, firstRelease));
        values.addAll(List.of(
                0, 1, 1, 0, 6, 0, 0, 0, 2, 6, 0, 0,    // apprentice 2
                30, 4, 26, 0, 0,  20, 0, 20, 6, 0,  1, 0, 1, 0, 0,
                1, 6, 1, 1,
                0, -1));
        return values;
    }
}
