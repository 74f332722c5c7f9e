import java.util.ArrayDeque;
import java.util.ArrayList;
import java.util.Deque;
import java.util.Iterator;
import java.util.List;
import java.util.TreeSet;
import java.util.regex.Matcher;
import java.util.regex.Pattern;

/**
 * A second, slow program for the same document, written with lists, copies and regular
 * expressions, to which ModelTest compares the class. It shares no code with the class.
 */
final class Model {
    private record Entry(int part, int hours, int day, int mentor) {
        int value(int what) {
            return new int[] {part, hours, day, mentor}[what];
        }
    }

    private static final class Pupil {
        int trade;
        int mentor;
        long[] done = new long[3];
        List<Entry> pending = new ArrayList<>();
        List<Entry> doubted = new ArrayList<>();
        int refused;
        TreeSet<Integer> releases = new TreeSet<>();
        List<int[]> worked = new ArrayList<>();      // day and hours of everything that was logged
        int moves;

        Pupil copy() {
            Pupil copy = new Pupil();
            copy.trade = trade;
            copy.mentor = mentor;
            copy.done = done.clone();
            copy.pending = new ArrayList<>(pending);
            copy.doubted = new ArrayList<>(doubted);
            copy.refused = refused;
            copy.releases = new TreeSet<>(releases);
            copy.worked = new ArrayList<>(worked);
            copy.moves = moves;
            return copy;
        }

        int hoursOn(int day) {
            return worked.stream().filter(w -> w[0] == day).mapToInt(w -> w[1]).sum();
        }

        int doubtIf(java.util.function.Predicate<Entry> which) {
            int count = 0;
            for (Iterator<Entry> each = pending.iterator(); each.hasNext();) {
                Entry entry = each.next();
                if (which.test(entry)) {
                    each.remove();
                    doubted.add(entry);
                    count++;
                }
            }
            return count;
        }
    }

    private static final class World {
        List<int[]> trades = new ArrayList<>();
        List<int[]> mentors = new ArrayList<>();     // ratio, trades, confirmed
        List<Pupil> pupils = new ArrayList<>();
        int day;

        World copy() {
            World copy = new World();
            copy.trades = new ArrayList<>(trades);
            mentors.forEach(mentor -> copy.mentors.add(mentor.clone()));
            pupils.forEach(pupil -> copy.pupils.add(pupil.copy()));
            copy.day = day;
            return copy;
        }
    }

    private World world = new World();
    private Deque<World> saved = new ArrayDeque<>();
    private final StringBuilder text = new StringBuilder();

    private static void index(boolean good) {
        if (!good) {
            throw new IndexOutOfBoundsException();
        }
    }

    private static void argument(boolean good) {
        if (!good) {
            throw new IllegalArgumentException();
        }
    }

    private static void state(boolean good) {
        if (!good) {
            throw new IllegalStateException();
        }
    }

    private Pupil pupil(int number) {
        index(number >= 0 && number < world.pupils.size());
        return world.pupils.get(number);
    }

    private int[] master(int number) {
        index(number >= 0 && number < world.mentors.size());
        return world.mentors.get(number);
    }

    private int pupilsOf(int mentor) {
        return (int) world.pupils.stream().filter(p -> p.mentor == mentor).count();
    }

    private boolean teaches(int mentor, int trade) {
        return (world.mentors.get(mentor)[1] & 1 << trade) != 0;
    }

    int addTrade(int first, int second, int third) {
        for (int hours : new int[] {first, second, third}) {
            argument(hours >= 0 && hours <= 2000);
        }
        state(world.trades.size() < 5);
        world.trades.add(new int[] {first, second, third});
        return world.trades.size() - 1;
    }

    int addMentor(int ratio, int trades) {
        argument(ratio >= 1 && ratio <= 6 && trades >= 0 && trades <= 31);
        state(world.mentors.size() < 6);
        world.mentors.add(new int[] {ratio, trades, 0});
        return world.mentors.size() - 1;
    }

    int addApprentice(int trade, int mentor) {
        index(trade >= 0 && trade < world.trades.size());
        if (mentor != -1) {
            master(mentor);
        }
        state(world.pupils.size() < 10);
        if (mentor != -1) {
            state(teaches(mentor, trade) && pupilsOf(mentor) < master(mentor)[0]);
        }
        Pupil pupil = new Pupil();
        pupil.trade = trade;
        pupil.mentor = mentor;
        world.pupils.add(pupil);
        return world.pupils.size() - 1;
    }

    int release(int apprentice, int day) {
        Pupil pupil = pupil(apprentice);
        argument(day >= 0 && day <= 199);
        state(pupil.hoursOn(day) == 0);
        pupil.releases.add(day);
        return pupil.releases.size();
    }

    int log(int apprentice, int part, int hours) {
        Pupil pupil = pupil(apprentice);
        argument(part >= 0 && part <= 2 && hours >= 1 && hours <= 12);
        state(pupil.mentor != -1);
        state(!pupil.releases.contains(world.day));
        state(pupil.hoursOn(world.day) + hours <= 12);
        state(pupil.pending.size() + pupil.doubted.size() < 20);
        pupil.pending.add(new Entry(part, hours, world.day, pupil.mentor));
        pupil.worked.add(new int[] {world.day, hours});
        return pupil.pending.size();
    }

    int confirm(int mentor, int most) {
        master(mentor);
        argument(most >= 1 && most <= 99);
        World before = world.copy();
        int count = 0;
        for (Pupil pupil : world.pupils) {
            for (Entry entry : pupil.mentor == mentor ? List.copyOf(pupil.pending) : List.<Entry>of()) {
                if (entry.mentor() == mentor && count < most) {
                    pupil.pending.remove(indexOfSame(pupil.pending, entry));
                    pupil.done[entry.part()] += entry.hours();
                    count++;
                }
            }
        }
        for (Pupil pupil : world.pupils) {
            for (long done : pupil.done) {
                if (done > Integer.MAX_VALUE) {
                    world = before;
                    throw new IllegalStateException();
                }
            }
        }
        master(mentor)[2] += count;
        return count;
    }

    private static int indexOfSame(List<Entry> entries, Entry entry) {
        for (int index = 0; index < entries.size(); index++) {
            if (entries.get(index) == entry) {
                return index;
            }
        }
        throw new AssertionError();
    }

    int doubt(int apprentice) {
        Pupil pupil = pupil(apprentice);
        state(pupil.mentor != -1 && !pupil.pending.isEmpty());
        Entry entry = pupil.pending.remove(0);
        pupil.doubted.add(entry);
        return entry.hours();
    }

    int settle(int apprentice, boolean accept) {
        Pupil pupil = pupil(apprentice);
        state(!pupil.doubted.isEmpty());
        Entry entry = pupil.doubted.get(0);
        state(!accept || pupil.done[entry.part()] + entry.hours() <= Integer.MAX_VALUE);
        pupil.doubted.remove(0);
        if (accept) {
            pupil.done[entry.part()] += entry.hours();
        } else {
            pupil.refused += entry.hours();
        }
        return entry.hours();
    }

    int credit(int apprentice, int part, int hours) {
        Pupil pupil = pupil(apprentice);
        argument(part >= 0 && part <= 2);
        long done = pupil.done[part] + hours;
        state(done >= 0 && done <= Integer.MAX_VALUE);
        pupil.done[part] = done;
        return (int) done;
    }

    int endDay() {
        state(world.day < 9999);
        int count = 0;
        for (Pupil pupil : world.pupils) {
            count += pupil.doubtIf(entry -> world.day - entry.day() >= 14);
        }
        world.day++;
        return count;
    }

    private int days(int days) {
        argument(days >= 1 && days <= 30);
        state(world.day + days <= 9999);
        for (int ended = 0; ended < days; ended++) {
            endDay();
        }
        return days;
    }

    int move(int apprentice, int mentor) {
        state(reason(apprentice, mentor) == 0);
        return shift(pupil(apprentice), mentor);
    }

    private int shift(Pupil pupil, int mentor) {
        pupil.mentor = mentor;
        pupil.moves++;
        return pupil.doubtIf(entry -> entry.mentor() != mentor);
    }

    int leave(int apprentice) {
        Pupil pupil = pupil(apprentice);
        int mentor = pupil.mentor;
        state(mentor != -1);
        pupil.mentor = -1;
        return mentor;
    }

    int exchange(int a, int b) {
        Pupil one = pupil(a);
        Pupil other = pupil(b);
        argument(a != b);
        state(one.mentor != -1 && other.mentor != -1);
        state(one.mentor != other.mentor);
        state(teaches(one.mentor, other.trade));
        state(teaches(other.mentor, one.trade));
        int first = one.mentor;
        int second = other.mentor;
        return shift(one, second) + shift(other, first);
    }

    int reason(int apprentice, int mentor) {
        Pupil pupil = pupil(apprentice);
        master(mentor);
        return pupil.mentor == mentor ? 1 : !teaches(mentor, pupil.trade) ? 2
                : pupilsOf(mentor) >= master(mentor)[0] ? 3 : 0;
    }

    int mentor(int mentor, int what) {
        int[] master = master(mentor);
        argument(what >= 0 && what <= 4);
        long waiting = world.pupils.stream().filter(p -> p.mentor == mentor)
                .flatMap(p -> p.pending.stream()).filter(e -> e.mentor() == mentor).count();
        return new int[] {master[0], master[1], pupilsOf(mentor), (int) waiting, master[2]}[what];
    }

    private static int hours(List<Entry> entries) {
        return entries.stream().mapToInt(Entry::hours).sum();
    }

    private static int hours(List<Entry> entries, int part) {
        return entries.stream().filter(e -> e.part() == part).mapToInt(Entry::hours).sum();
    }

    int apprentice(int apprentice, int what) {
        Pupil pupil = pupil(apprentice);
        argument(what >= 0 && what <= 11);
        int missing = 0;
        for (int part = 0; part < 3; part++) {
            missing += part(apprentice, part, 2);
        }
        long days = pupil.worked.stream().map(w -> w[0]).distinct().count();
        return new int[] {pupil.trade, pupil.mentor, pupil.pending.size(), pupil.doubted.size(),
            hours(pupil.pending), hours(pupil.doubted), pupil.refused, pupil.releases.size(),
            (int) days, pupil.hoursOn(world.day), pupil.moves, missing == 0 ? 1 : 0}[what];
    }

    int part(int apprentice, int part, int what) {
        Pupil pupil = pupil(apprentice);
        argument(part >= 0 && part <= 2 && what >= 0 && what <= 4);
        int need = world.trades.get(pupil.trade)[part];
        long done = pupil.done[part];
        return new int[] {need, (int) done, done > need ? 0 : (int) (need - done),
            hours(pupil.pending, part), hours(pupil.doubted, part)}[what];
    }

    int entry(int apprentice, boolean doubted, int index, int what) {
        Pupil pupil = pupil(apprentice);
        argument(index >= 0 && what >= 0 && what <= 3);
        List<Entry> entries = doubted ? pupil.doubted : pupil.pending;
        return index < entries.size() ? entries.get(index).value(what) : -1;
    }

    int whole(int what) {
        argument(what >= 0 && what <= 9);
        int[] sums = new int[4];
        for (int number = 0; number < world.pupils.size(); number++) {
            sums[0] += apprentice(number, 2);
            sums[1] += apprentice(number, 3);
            sums[2] += apprentice(number, 11);
            sums[3] += apprentice(number, 6);
        }
        return new int[] {world.trades.size(), world.mentors.size(), world.pupils.size(),
            world.day, sums[0], sums[1], sums[2], pupilsOf(-1), sums[3], text.length()}[what];
    }

    int completeOn(int apprentice, int hours) {
        Pupil pupil = pupil(apprentice);
        argument(hours >= 1 && hours <= 12);
        long[] missing = new long[3];
        for (int part = 0; part < 3; part++) {
            missing[part] = Math.max(0, world.trades.get(pupil.trade)[part] - pupil.done[part]
                    - hours(pupil.pending, part));
        }
        if (missing[0] + missing[1] + missing[2] == 0) {
            return world.day;
        }
        for (int day = world.day; day < world.day + 2000; day++) {
            int left = pupil.releases.contains(day) ? 0 : hours;
            for (int part = 0; part < 3; part++) {
                long into = Math.min(left, missing[part]);
                missing[part] -= into;
                left -= into;
            }
            if (missing[0] + missing[1] + missing[2] == 0) {
                return day;
            }
        }
        return -1;
    }

    int bestMentor(int apprentice) {
        pupil(apprentice);
        int best = -1;
        int least = Integer.MAX_VALUE;
        for (int mentor = world.mentors.size() - 1; mentor >= 0; mentor--) {
            // 60 is a multiple of every ratio.
            int busy = (pupilsOf(mentor) + 1) * 60 / master(mentor)[0];
            if (reason(apprentice, mentor) == 0 && busy <= least) {
                best = mentor;
                least = busy;
            }
        }
        return best;
    }

    int doubtsBy(int a, int b) {
        pupil(a);
        pupil(b);
        World before = world.copy();
        try {
            return exchange(a, b);
        } catch (IllegalArgumentException | IllegalStateException impossible) {
            return -1;
        } finally {
            world = before;
        }
    }

    int nextRelease(int apprentice, int day) {
        Pupil pupil = pupil(apprentice);
        argument(day >= 0 && day <= 9999);
        Integer next = pupil.releases.ceiling(day);
        return next == null ? -1 : next;
    }

    int type(int value) {
        argument(value >= 0 && value <= 127);
        state(text.length() < 150);
        text.append((char) value);
        return text.length();
    }

    int clearCommands() {
        int length = text.length();
        text.setLength(0);
        return length;
    }

    private static final Pattern COMMANDS = Pattern.compile(
            "(?: *(?:(?:trade|log)(?: +[0-9]{1,4}){3}|(?:mentor|pupil|move|swap|free)(?: +[0-9]{1,4}){2}"
            + "|(?:confirm|doubt|accept|refuse|days) +[0-9]{1,4}) *;)* *");
    private static final Pattern WORDS = Pattern.compile(
            "trade|log|mentor|pupil|move|swap|free|confirm|doubt|accept|refuse|days");
    private static final Pattern LAST_WORD = Pattern.compile("(?s)(?:.*;)? *([a-z]+)");

    /** Whether a text can be the start of one without fault. */
    private static boolean canStart(String start) {
        Matcher matcher = COMMANDS.matcher(start);
        return matcher.matches() || matcher.hitEnd();
    }

    /** The first byte of the word with which a text ends where a command begins, or -1. */
    private static int openWord(String start) {
        Matcher matcher = LAST_WORD.matcher(start);
        return matcher.matches() ? matcher.start(1) : -1;
    }

    private int fault() {
        String all = text.toString();
        for (int end = 1; end <= all.length(); end++) {
            String start = all.substring(0, end);
            int word = openWord(all.substring(0, end - 1));
            if (word >= 0 && openWord(start) < 0
                    && !WORDS.matcher(all.substring(word, end - 1)).matches()) {
                return word;
            }
            if (openWord(start) < 0 && !canStart(start)) {
                return end - 1;
            }
        }
        if (COMMANDS.matcher(all).matches()) {
            return -1;
        }
        int word = openWord(all);
        return word >= 0 && !WORDS.matcher(all.substring(word)).matches() ? word : all.length();
    }

    private void carryOut(String[] words) {
        int[] n = new int[4];
        for (int index = 1; index < words.length; index++) {
            n[index - 1] = Integer.parseInt(words[index]);
        }
        switch (words[0]) {
            case "trade" -> addTrade(n[0], n[1], n[2]);
            case "mentor" -> addMentor(n[0], n[1]);
            case "pupil" -> addApprentice(n[0], n[1]);
            case "log" -> log(n[0], n[1], n[2]);
            case "confirm" -> confirm(n[0], 99);
            case "doubt" -> doubt(n[0]);
            case "accept" -> settle(n[0], true);
            case "refuse" -> settle(n[0], false);
            case "move" -> move(n[0], n[1]);
            case "swap" -> exchange(n[0], n[1]);
            case "free" -> release(n[0], n[1]);
            case "days" -> days(n[0]);
            default -> throw new AssertionError(words[0]);
        }
    }

    int runCommands() {
        int fault = fault();
        if (fault >= 0) {
            return -10 - fault;
        }
        int count = 0;
        String all = text.toString().trim();
        if (all.isEmpty()) {
            return 0;
        }
        for (String command : all.split(";")) {
            try {
                carryOut(command.trim().split(" +"));
            } catch (IndexOutOfBoundsException | IllegalArgumentException | IllegalStateException end) {
                return count;
            }
            count++;
        }
        return count;
    }

    /** Keeps the state from before an undoable call; ModelTest says when. */
    World0 before() {
        return new World0(world.copy());
    }

    record World0(World world) {
    }

    void save(World0 before) {
        saved.push(before.world());
        if (saved.size() > 4) {
            saved.removeLast();
        }
    }

    int undo() {
        state(!saved.isEmpty());
        world = saved.pop();
        return saved.size();
    }

    long digest() {
        long hash = 31L * 43434 + saved.size();
        for (int what = 0; what < 10; what++) {
            hash = 31 * hash + whole(what);
        }
        for (int number = 0; number < world.mentors.size(); number++) {
            for (int what = 0; what < 5; what++) {
                hash = 31 * hash + mentor(number, what);
            }
        }
        for (int number = 0; number < world.pupils.size(); number++) {
            List<Integer> values = new ArrayList<>();
            for (int what = 0; what < 12; what++) {
                values.add(apprentice(number, what));
            }
            for (int each = 0; each < 15; each++) {
                values.add(part(number, each / 5, each % 5));
            }
            for (Entry entry : world.pupils.get(number).pending) {
                values.addAll(List.of(entry.part(), entry.hours(), entry.day(), entry.mentor()));
            }
            for (Entry entry : world.pupils.get(number).doubted) {
                values.addAll(List.of(entry.part(), entry.hours(), entry.day(), entry.mentor()));
            }
            values.add(bestMentor(number));
            values.add(nextRelease(number, 0));
            for (int value : values) {
                hash = 31 * hash + value;
            }
        }
        return hash;
    }
}
