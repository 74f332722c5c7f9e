/**
 * An exchange of apprentices: trades, mentors, logged hours, moves, what-if questions
 * and texts of commands.
 *
 * Each call of the face first asks which exception is due (a method faultOf...), then
 * saves the state for undo, and only then changes it: so a call that throws changes
 * nothing, and a command text can be run without an exception.
 */
public final class TradeLogs {
    public static final int NONE = -1;

    private static final int MOST_TRADES = 5;
    private static final int MOST_MENTORS = 6;
    private static final int MOST_APPRENTICES = 10;
    private static final int PARTS = 3;
    private static final int MOST_NEEDED = 2000;
    private static final int MOST_RATIO = 6;
    private static final int ALL_TRADES = 31;
    private static final int MOST_ENTRIES = 20;
    private static final int MOST_HOURS = 12;
    private static final long MOST_DONE = 2147483647L;
    private static final int MOST_CONFIRMED = 99;
    private static final int SET_DAYS = 200;
    private static final int LAST_DAY = 9999;
    private static final int DOUBT_AGE = 14;
    private static final int FORESEEN_DAYS = 2000;
    private static final int MOST_DAYS_ENDED = 30;
    private static final int MOST_SAVED = 4;
    private static final int MOST_BYTES = 150;
    private static final int LAST_BYTE = 127;
    private static final int FAULT_BASE = -10;
    private static final long FIRST_HASH = 43434L;

    // What an entry holds, by the numbers that entry() gives it.
    private static final int ENTRY_PART = 0;
    private static final int ENTRY_HOURS = 1;
    private static final int ENTRY_DAY = 2;
    private static final int ENTRY_MENTOR = 3;
    private static final int ENTRY_VALUES = 4;

    private static final int MENTOR_VALUES = 5;
    private static final int APPRENTICE_VALUES = 12;
    private static final int PART_VALUES = 5;
    private static final int WHOLE_VALUES = 10;
    private static final int TEXT_LENGTH = 9;

    // Which exception is due.
    private static final int FINE = 0;
    private static final int NO_SUCH = 1;
    private static final int BAD_ARGUMENT = 2;
    private static final int BAD_STATE = 3;

    private final State state = new State();
    private final UndoStack undoStack = new UndoStack();
    private final CommandText commandText = new CommandText();

    public TradeLogs() {
    }

    // ---- trades, mentors, apprentices

    public int addTrade(int first, int second, int third)
            throws IllegalArgumentException, IllegalStateException {
        refuse(faultOfTrade(first, second, third));
        undoStack.save(state);
        return state.putTrade(first, second, third);
    }

    public int addMentor(int ratio, int trades)
            throws IllegalArgumentException, IllegalStateException {
        refuse(faultOfMentor(ratio, trades));
        undoStack.save(state);
        return state.putMentor(ratio, trades);
    }

    public int addApprentice(int trade, int mentor)
            throws IndexOutOfBoundsException, IllegalStateException {
        refuse(faultOfApprentice(trade, mentor));
        undoStack.save(state);
        return state.putApprentice(trade, mentor);
    }

    public int release(int apprentice, int day)
            throws IndexOutOfBoundsException, IllegalArgumentException, IllegalStateException {
        refuse(faultOfRelease(apprentice, day));
        undoStack.save(state);
        return state.putRelease(apprentice, day);
    }

    // ---- logging

    public int log(int apprentice, int part, int hours)
            throws IndexOutOfBoundsException, IllegalArgumentException, IllegalStateException {
        refuse(faultOfLog(apprentice, part, hours));
        undoStack.save(state);
        return state.putWork(apprentice, part, hours);
    }

    public int confirm(int mentor, int most)
            throws IndexOutOfBoundsException, IllegalArgumentException, IllegalStateException {
        refuse(faultOfConfirm(mentor, most));
        undoStack.save(state);
        return state.confirmPending(mentor, most);
    }

    public int doubt(int apprentice)
            throws IndexOutOfBoundsException, IllegalStateException {
        refuse(faultOfDoubt(apprentice));
        undoStack.save(state);
        return state.doubtOldest(apprentice);
    }

    public int settle(int apprentice, boolean accept)
            throws IndexOutOfBoundsException, IllegalStateException {
        refuse(faultOfSettle(apprentice, accept));
        undoStack.save(state);
        return state.settleOldest(apprentice, accept);
    }

    public int credit(int apprentice, int part, int hours)
            throws IndexOutOfBoundsException, IllegalArgumentException, IllegalStateException {
        refuse(faultOfCredit(apprentice, part, hours));
        undoStack.save(state);
        return state.putCredit(apprentice, part, hours);
    }

    public int endDay() throws IllegalStateException {
        refuse(faultOfDays(1));
        undoStack.save(state);
        return state.passDays(1);
    }

    // ---- moves

    public int move(int apprentice, int mentor)
            throws IndexOutOfBoundsException, IllegalStateException {
        refuse(faultOfMove(apprentice, mentor));
        undoStack.save(state);
        return state.moveTo(apprentice, mentor);
    }

    public int leave(int apprentice)
            throws IndexOutOfBoundsException, IllegalStateException {
        refuse(faultOfLeave(apprentice));
        undoStack.save(state);
        return state.takeFromMentor(apprentice);
    }

    public int exchange(int a, int b)
            throws IndexOutOfBoundsException, IllegalArgumentException, IllegalStateException {
        refuse(faultOfExchange(a, b));
        undoStack.save(state);
        return state.exchangeBoth(a, b);
    }

    public int reason(int apprentice, int mentor) throws IndexOutOfBoundsException {
        refuse(faultOfPair(apprentice, mentor));
        return state.obstacle(apprentice, mentor);
    }

    // ---- values

    public int mentor(int mentor, int what)
            throws IndexOutOfBoundsException, IllegalArgumentException {
        refuse(state.hasMentor(mentor) ? FINE : NO_SUCH);
        refuse(isWithin(what, 0, MENTOR_VALUES - 1) ? FINE : BAD_ARGUMENT);
        return state.mentorValue(mentor, what);
    }

    public int apprentice(int apprentice, int what)
            throws IndexOutOfBoundsException, IllegalArgumentException {
        refuse(state.hasApprentice(apprentice) ? FINE : NO_SUCH);
        refuse(isWithin(what, 0, APPRENTICE_VALUES - 1) ? FINE : BAD_ARGUMENT);
        return state.apprenticeValue(apprentice, what);
    }

    public int part(int apprentice, int part, int what)
            throws IndexOutOfBoundsException, IllegalArgumentException {
        refuse(state.hasApprentice(apprentice) ? FINE : NO_SUCH);
        refuse(isPart(part) && isWithin(what, 0, PART_VALUES - 1) ? FINE : BAD_ARGUMENT);
        return state.partValue(apprentice, part, what);
    }

    public int entry(int apprentice, boolean doubted, int index, int what)
            throws IndexOutOfBoundsException, IllegalArgumentException {
        refuse(state.hasApprentice(apprentice) ? FINE : NO_SUCH);
        refuse(index >= 0 && isWithin(what, 0, ENTRY_VALUES - 1) ? FINE : BAD_ARGUMENT);
        return state.entryValue(apprentice, doubted, index, what);
    }

    public int whole(int what) throws IllegalArgumentException {
        refuse(isWithin(what, 0, WHOLE_VALUES - 1) ? FINE : BAD_ARGUMENT);
        return valueOfWhole(what);
    }

    // ---- what if, which changes nothing

    public int completeOn(int apprentice, int hours)
            throws IndexOutOfBoundsException, IllegalArgumentException {
        refuse(state.hasApprentice(apprentice) ? FINE : NO_SUCH);
        refuse(isWithin(hours, 1, MOST_HOURS) ? FINE : BAD_ARGUMENT);
        return state.completionDay(apprentice, hours);
    }

    public int bestMentor(int apprentice) throws IndexOutOfBoundsException {
        refuse(state.hasApprentice(apprentice) ? FINE : NO_SUCH);
        return state.leastBusyMentor(apprentice);
    }

    public int doubtsBy(int a, int b) throws IndexOutOfBoundsException {
        refuse(state.hasApprentice(a) && state.hasApprentice(b) ? FINE : NO_SUCH);
        return state.canExchange(a, b) ? state.doubtsOfExchange(a, b) : NONE;
    }

    public int nextRelease(int apprentice, int day)
            throws IndexOutOfBoundsException, IllegalArgumentException {
        refuse(state.hasApprentice(apprentice) ? FINE : NO_SUCH);
        refuse(isWithin(day, 0, LAST_DAY) ? FINE : BAD_ARGUMENT);
        return state.firstRelease(apprentice, day);
    }

    // ---- command text, undo and checksum

    public int type(int value) throws IllegalArgumentException, IllegalStateException {
        refuse(isWithin(value, 0, LAST_BYTE) ? FINE : BAD_ARGUMENT);
        refuse(commandText.length < MOST_BYTES ? FINE : BAD_STATE);
        return commandText.append(value);
    }

    public int clearCommands() {
        return commandText.empty();
    }

    public int runCommands() {
        int fault = commandText.readCommands();
        if (fault != NONE) {
            return FAULT_BASE - fault;
        }
        undoStack.save(state);
        int count = commandText.count;
        for (int index = 0; index < count; index++) {
            if (faultOfCommand(index) != FINE) {
                return index;
            }
            obey(index);
        }
        return count;
    }

    public int undo() throws IllegalStateException {
        refuse(undoStack.size > 0 ? FINE : BAD_STATE);
        return undoStack.restore(state);
    }

    public long digest() {
        long hash = withValue(FIRST_HASH, undoStack.size);
        for (int what = 0; what < WHOLE_VALUES; what++) {
            hash = withValue(hash, valueOfWhole(what));
        }
        for (int mentor = 0; mentor < state.mentorCount; mentor++) {
            for (int what = 0; what < MENTOR_VALUES; what++) {
                hash = withValue(hash, state.mentorValue(mentor, what));
            }
        }
        for (int apprentice = 0; apprentice < state.apprenticeCount; apprentice++) {
            hash = withApprentice(hash, apprentice);
        }
        return hash;
    }

    // ---- parts of the checksum

    private static long withValue(long hash, int value) {
        return 31L * hash + value;
    }

    private long withApprentice(long start, int apprentice) {
        long hash = start;
        for (int what = 0; what < APPRENTICE_VALUES; what++) {
            hash = withValue(hash, state.apprenticeValue(apprentice, what));
        }
        for (int part = 0; part < PARTS; part++) {
            for (int what = 0; what < PART_VALUES; what++) {
                hash = withValue(hash, state.partValue(apprentice, part, what));
            }
        }
        hash = withEntries(hash, apprentice, false);
        hash = withEntries(hash, apprentice, true);
        hash = withValue(hash, state.leastBusyMentor(apprentice));
        return withValue(hash, state.firstRelease(apprentice, 0));
    }

    private long withEntries(long start, int apprentice, boolean doubted) {
        long hash = start;
        int size = state.entryCount(apprentice, doubted);
        for (int index = 0; index < size; index++) {
            for (int what = 0; what < ENTRY_VALUES; what++) {
                hash = withValue(hash, state.entryValue(apprentice, doubted, index, what));
            }
        }
        return hash;
    }

    private int valueOfWhole(int what) {
        return what == TEXT_LENGTH ? commandText.length : state.wholeValue(what);
    }

    // ---- which exception is due

    private static void refuse(int fault) {
        if (fault == NO_SUCH) {
            throw new IndexOutOfBoundsException("there is none of this number");
        }
        if (fault == BAD_ARGUMENT) {
            throw new IllegalArgumentException("an argument is out of range");
        }
        if (fault == BAD_STATE) {
            throw new IllegalStateException("this cannot be done now");
        }
    }

    private static boolean isWithin(int value, int least, int most) {
        return value >= least && value <= most;
    }

    private static boolean isPart(int part) {
        return part >= 0 && part < PARTS;
    }

    private int faultOfTrade(int first, int second, int third) {
        if (!isWithin(first, 0, MOST_NEEDED) || !isWithin(second, 0, MOST_NEEDED)
                || !isWithin(third, 0, MOST_NEEDED)) {
            return BAD_ARGUMENT;
        }
        return state.tradeCount < MOST_TRADES ? FINE : BAD_STATE;
    }

    private int faultOfMentor(int ratio, int trades) {
        if (!isWithin(ratio, 1, MOST_RATIO) || !isWithin(trades, 0, ALL_TRADES)) {
            return BAD_ARGUMENT;
        }
        return state.mentorCount < MOST_MENTORS ? FINE : BAD_STATE;
    }

    private int faultOfApprentice(int trade, int mentor) {
        if (!state.hasTrade(trade) || mentor != NONE && !state.hasMentor(mentor)) {
            return NO_SUCH;
        }
        if (state.apprenticeCount >= MOST_APPRENTICES) {
            return BAD_STATE;
        }
        if (mentor == NONE) {
            return FINE;
        }
        return state.teaches(mentor, trade) && !state.isFull(mentor) ? FINE : BAD_STATE;
    }

    private int faultOfRelease(int apprentice, int day) {
        if (!state.hasApprentice(apprentice)) {
            return NO_SUCH;
        }
        if (!isWithin(day, 0, SET_DAYS - 1)) {
            return BAD_ARGUMENT;
        }
        return state.hasWorked(apprentice, day) ? BAD_STATE : FINE;
    }

    private int faultOfLog(int apprentice, int part, int hours) {
        if (!state.hasApprentice(apprentice)) {
            return NO_SUCH;
        }
        if (!isPart(part) || !isWithin(hours, 1, MOST_HOURS)) {
            return BAD_ARGUMENT;
        }
        return state.canWork(apprentice, hours) ? FINE : BAD_STATE;
    }

    private int faultOfConfirm(int mentor, int most) {
        if (!state.hasMentor(mentor)) {
            return NO_SUCH;
        }
        if (!isWithin(most, 1, MOST_CONFIRMED)) {
            return BAD_ARGUMENT;
        }
        return state.canConfirm(mentor, most) ? FINE : BAD_STATE;
    }

    private int faultOfDoubt(int apprentice) {
        if (!state.hasApprentice(apprentice)) {
            return NO_SUCH;
        }
        boolean possible = state.mentorOf(apprentice) != NONE
                && state.entryCount(apprentice, false) > 0;
        return possible ? FINE : BAD_STATE;
    }

    private int faultOfSettle(int apprentice, boolean accept) {
        if (!state.hasApprentice(apprentice)) {
            return NO_SUCH;
        }
        return state.canSettle(apprentice, accept) ? FINE : BAD_STATE;
    }

    private int faultOfCredit(int apprentice, int part, int hours) {
        if (!state.hasApprentice(apprentice)) {
            return NO_SUCH;
        }
        if (!isPart(part)) {
            return BAD_ARGUMENT;
        }
        return state.canCredit(apprentice, part, hours) ? FINE : BAD_STATE;
    }

    private int faultOfDays(int days) {
        if (!isWithin(days, 1, MOST_DAYS_ENDED)) {
            return BAD_ARGUMENT;
        }
        return state.day + days <= LAST_DAY ? FINE : BAD_STATE;
    }

    private int faultOfPair(int apprentice, int mentor) {
        return state.hasApprentice(apprentice) && state.hasMentor(mentor) ? FINE : NO_SUCH;
    }

    private int faultOfMove(int apprentice, int mentor) {
        if (faultOfPair(apprentice, mentor) != FINE) {
            return NO_SUCH;
        }
        return state.obstacle(apprentice, mentor) == 0 ? FINE : BAD_STATE;
    }

    private int faultOfLeave(int apprentice) {
        if (!state.hasApprentice(apprentice)) {
            return NO_SUCH;
        }
        return state.mentorOf(apprentice) != NONE ? FINE : BAD_STATE;
    }

    private int faultOfExchange(int a, int b) {
        if (!state.hasApprentice(a) || !state.hasApprentice(b)) {
            return NO_SUCH;
        }
        if (a == b) {
            return BAD_ARGUMENT;
        }
        return state.canExchange(a, b) ? FINE : BAD_STATE;
    }

    // ---- commands

    private int faultOfCommand(int index) {
        Command command = commandText.commandAt(index);
        if (command == null) {
            return BAD_STATE;
        }
        int first = commandText.numberAt(index, 0);
        int second = commandText.numberAt(index, 1);
        int third = commandText.numberAt(index, 2);
        switch (command) {
            case TRADE: return faultOfTrade(first, second, third);
            case MENTOR: return faultOfMentor(first, second);
            case PUPIL: return faultOfApprentice(first, second);
            case LOG: return faultOfLog(first, second, third);
            case CONFIRM: return faultOfConfirm(first, MOST_CONFIRMED);
            case DOUBT: return faultOfDoubt(first);
            case ACCEPT: return faultOfSettle(first, true);
            case REFUSE: return faultOfSettle(first, false);
            case MOVE: return faultOfMove(first, second);
            case SWAP: return faultOfExchange(first, second);
            case FREE: return faultOfRelease(first, second);
            default: return faultOfDays(first);
        }
    }

    private void obey(int index) {
        Command command = commandText.commandAt(index);
        if (command == null) {
            return;
        }
        int first = commandText.numberAt(index, 0);
        int second = commandText.numberAt(index, 1);
        int third = commandText.numberAt(index, 2);
        switch (command) {
            case TRADE: state.putTrade(first, second, third); break;
            case MENTOR: state.putMentor(first, second); break;
            case PUPIL: state.putApprentice(first, second); break;
            case LOG: state.putWork(first, second, third); break;
            case CONFIRM: state.confirmPending(first, MOST_CONFIRMED); break;
            case DOUBT: state.doubtOldest(first); break;
            case ACCEPT: state.settleOldest(first, true); break;
            case REFUSE: state.settleOldest(first, false); break;
            case MOVE: state.moveTo(first, second); break;
            case SWAP: state.exchangeBoth(first, second); break;
            case FREE: state.putRelease(first, second); break;
            default: state.passDays(first); break;
        }
    }

    /** The commands, each with its word and how many numbers follow it. */
    private enum Command {
        TRADE("trade", 3),
        MENTOR("mentor", 2),
        PUPIL("pupil", 2),
        LOG("log", 3),
        CONFIRM("confirm", 1),
        DOUBT("doubt", 1),
        ACCEPT("accept", 1),
        REFUSE("refuse", 1),
        MOVE("move", 2),
        SWAP("swap", 2),
        FREE("free", 2),
        DAYS("days", 1);

        final String word;
        final int numbers;

        Command(String word, int numbers) {
            this.word = word;
            this.numbers = numbers;
        }
    }

    /** The command text, and the commands that were read from it. */
    private static final class CommandText {
        private static final Command[] COMMANDS = Command.values();
        private static final int MOST_NUMBERS = 3;
        private static final int MOST_DIGITS = 4;
        // The shortest command, as "days 1;", has seven bytes.
        private static final int MOST_COMMANDS = MOST_BYTES / 7;

        // Where in a command the reader stands.
        private static final int BEFORE_WORD = 0;
        private static final int IN_WORD = 1;
        private static final int BEFORE_NUMBER = 2;
        private static final int IN_NUMBER = 3;
        private static final int BEHIND_NUMBERS = 4;

        private final int[] bytes = new int[MOST_BYTES];
        private final Command[] commands = new Command[MOST_COMMANDS];
        private final int[][] numbers = new int[MOST_COMMANDS][MOST_NUMBERS];
        int length;
        int count;
        private int place;
        private int wordStart;
        private int numbersDue;
        private int numbersRead;
        private int digits;
        private int number;

        int append(int value) {
            if (length < MOST_BYTES) {
                bytes[length] = value;
                length++;
            }
            return length;
        }

        int empty() {
            int before = length;
            length = 0;
            return before;
        }

        Command commandAt(int index) {
            return index >= 0 && index < count && index < MOST_COMMANDS ? commands[index] : null;
        }

        int numberAt(int index, int which) {
            boolean inside = index >= 0 && index < count && index < MOST_COMMANDS
                    && which >= 0 && which < MOST_NUMBERS;
            return inside ? numbers[index][which] : NONE;
        }

        /** Reads the whole text; answers its fault, or NONE. */
        int readCommands() {
            count = 0;
            place = BEFORE_WORD;
            for (int at = 0; at < length && at < MOST_BYTES; at++) {
                int fault = readByte(at, bytes[at]);
                if (fault != NONE) {
                    return fault;
                }
            }
            return faultOfEnd();
        }

        private int faultOfEnd() {
            if (place == BEFORE_WORD) {
                return NONE;
            }
            if (place == IN_WORD && commandOf(wordStart, length) == null) {
                return wordStart;
            }
            return length;
        }

        private int readByte(int at, int value) {
            switch (place) {
                case BEFORE_WORD: return readBeforeWord(at, value);
                case IN_WORD: return readInWord(at, value);
                case BEFORE_NUMBER: return readBeforeNumber(at, value);
                case IN_NUMBER: return readInNumber(at, value);
                default: return readBehindNumbers(at, value);
            }
        }

        private int readBeforeWord(int at, int value) {
            if (value == ' ') {
                return NONE;
            }
            if (!isLetter(value)) {
                return at;
            }
            wordStart = at;
            place = IN_WORD;
            return NONE;
        }

        private int readInWord(int at, int value) {
            if (isLetter(value)) {
                return NONE;
            }
            Command command = commandOf(wordStart, at);
            if (command == null) {
                return wordStart;
            }
            if (value != ' ') {
                return at;
            }
            beginCommand(command);
            place = BEFORE_NUMBER;
            return NONE;
        }

        private int readBeforeNumber(int at, int value) {
            if (value == ' ') {
                return NONE;
            }
            if (!isDigit(value)) {
                return at;
            }
            number = value - '0';
            digits = 1;
            place = IN_NUMBER;
            return NONE;
        }

        private int readInNumber(int at, int value) {
            if (isDigit(value)) {
                if (digits == MOST_DIGITS) {
                    return at;
                }
                number = 10 * number + value - '0';
                digits++;
                return NONE;
            }
            keepNumber();
            if (numbersRead == numbersDue) {
                place = BEHIND_NUMBERS;
                return readBehindNumbers(at, value);
            }
            place = BEFORE_NUMBER;
            return value == ' ' ? NONE : at;
        }

        private int readBehindNumbers(int at, int value) {
            if (value == ' ') {
                return NONE;
            }
            if (value != ';') {
                return at;
            }
            count++;
            place = BEFORE_WORD;
            return NONE;
        }

        private void beginCommand(Command command) {
            if (count < MOST_COMMANDS) {
                commands[count] = command;
            }
            numbersDue = command.numbers;
            numbersRead = 0;
        }

        private void keepNumber() {
            if (count < MOST_COMMANDS && numbersRead < MOST_NUMBERS) {
                numbers[count][numbersRead] = number;
            }
            numbersRead++;
        }

        /** The command whose word stands in the text from one index up to another, or null. */
        private Command commandOf(int from, int to) {
            for (int index = 0; index < COMMANDS.length; index++) {
                if (isWord(COMMANDS[index].word, from, to)) {
                    return COMMANDS[index];
                }
            }
            return null;
        }

        private boolean isWord(String word, int from, int to) {
            if (from < 0 || to > MOST_BYTES || word.length() != to - from) {
                return false;
            }
            for (int index = 0; index < word.length(); index++) {
                if (bytes[from + index] != word.charAt(index)) {
                    return false;
                }
            }
            return true;
        }

        private static boolean isLetter(int value) {
            return value >= 'a' && value <= 'z';
        }

        private static boolean isDigit(int value) {
            return value >= '0' && value <= '9';
        }
    }

    /** The latest saved states, the newest one on top. */
    private static final class UndoStack {
        private final State[] saved = new State[MOST_SAVED];
        private int oldest;
        int size;

        UndoStack() {
            for (int index = 0; index < MOST_SAVED; index++) {
                saved[index] = new State();
            }
        }

        void save(State state) {
            saved[(oldest + size) % MOST_SAVED].copyState(state);
            if (size < MOST_SAVED) {
                size++;
            } else {
                oldest = (oldest + 1) % MOST_SAVED;
            }
        }

        int restore(State state) {
            if (size > 0) {
                size--;
                state.copyState(saved[(oldest + size) % MOST_SAVED]);
            }
            return size;
        }
    }

    /** A set of the days 0 to 199. */
    private static final class DaySet {
        private static final int WORD_BITS = 64;

        private final long[] words = new long[SET_DAYS / WORD_BITS + 1];
        int size;

        boolean has(int day) {
            if (day < 0 || day >= SET_DAYS) {
                return false;
            }
            return (words[day / WORD_BITS] >>> (day % WORD_BITS) & 1L) != 0L;
        }

        void put(int day) {
            if (day < 0 || day >= SET_DAYS || has(day)) {
                return;
            }
            words[day / WORD_BITS] |= 1L << (day % WORD_BITS);
            size++;
        }

        int firstFrom(int day) {
            for (int next = Math.max(day, 0); next < SET_DAYS; next++) {
                if (has(next)) {
                    return next;
                }
            }
            return NONE;
        }

        void clear() {
            for (int index = 0; index < words.length; index++) {
                words[index] = 0L;
            }
            size = 0;
        }

        void copyDays(DaySet other) {
            System.arraycopy(other.words, 0, words, 0, words.length);
            size = other.size;
        }
    }

    /** Entries of an apprentice, the oldest one first. */
    private static final class EntryQueue {
        private final int[][] columns = new int[ENTRY_VALUES][MOST_ENTRIES];
        int size;

        /** A value of an entry; NONE if there are not so many. */
        int valueAt(int index, int what) {
            boolean inside = index >= 0 && index < size && index < MOST_ENTRIES
                    && what >= 0 && what < ENTRY_VALUES;
            return inside ? columns[what][index] : NONE;
        }

        void append(int part, int hours, int day, int mentor) {
            if (size < MOST_ENTRIES) {
                columns[ENTRY_PART][size] = part;
                columns[ENTRY_HOURS][size] = hours;
                columns[ENTRY_DAY][size] = day;
                columns[ENTRY_MENTOR][size] = mentor;
                size++;
            }
        }

        void removeAt(int index) {
            if (index < 0 || index >= size || size > MOST_ENTRIES) {
                return;
            }
            for (int what = 0; what < ENTRY_VALUES; what++) {
                System.arraycopy(columns[what], index + 1, columns[what], index, size - index - 1);
            }
            size--;
        }

        int hoursInAll() {
            int sum = 0;
            for (int index = 0; index < size; index++) {
                sum += valueAt(index, ENTRY_HOURS);
            }
            return sum;
        }

        int hoursOfPart(int part) {
            int sum = 0;
            for (int index = 0; index < size; index++) {
                if (valueAt(index, ENTRY_PART) == part) {
                    sum += valueAt(index, ENTRY_HOURS);
                }
            }
            return sum;
        }

        int countWith(int mentor) {
            int count = 0;
            for (int index = 0; index < size; index++) {
                if (valueAt(index, ENTRY_MENTOR) == mentor) {
                    count++;
                }
            }
            return count;
        }

        /** The hours of a part among the first so many entries that were logged with a mentor. */
        int hoursOfFirst(int most, int mentor, int part) {
            int sum = 0;
            int met = 0;
            for (int index = 0; index < size && met < most; index++) {
                if (valueAt(index, ENTRY_MENTOR) == mentor) {
                    met++;
                    sum += valueAt(index, ENTRY_PART) == part ? valueAt(index, ENTRY_HOURS) : 0;
                }
            }
            return sum;
        }

        void copyEntries(EntryQueue other) {
            for (int what = 0; what < ENTRY_VALUES; what++) {
                System.arraycopy(other.columns[what], 0, columns[what], 0, MOST_ENTRIES);
            }
            size = other.size;
        }
    }

    private static final class Mentor {
        int ratio;
        int trades;
        int confirmed;

        void begin(int newRatio, int newTrades) {
            ratio = newRatio;
            trades = newTrades;
            confirmed = 0;
        }

        void copyMentor(Mentor other) {
            ratio = other.ratio;
            trades = other.trades;
            confirmed = other.confirmed;
        }
    }

    private static final class Apprentice {
        private final int[] done = new int[PARTS];
        final EntryQueue pending = new EntryQueue();
        final EntryQueue doubted = new EntryQueue();
        final DaySet releases = new DaySet();
        final DaySet worked = new DaySet();
        int trade;
        int mentor;
        int refused;
        // All days with work; the set of them ends with day 199, as no later one can be released.
        int workedDays;
        int hoursToday;
        int moves;

        void begin(int newTrade, int newMentor) {
            for (int part = 0; part < PARTS; part++) {
                done[part] = 0;
            }
            pending.size = 0;
            doubted.size = 0;
            releases.clear();
            worked.clear();
            trade = newTrade;
            mentor = newMentor;
            refused = 0;
            workedDays = 0;
            hoursToday = 0;
            moves = 0;
        }

        int doneIn(int part) {
            return part >= 0 && part < PARTS ? done[part] : 0;
        }

        boolean canAdd(int part, int hours) {
            long sum = (long) doneIn(part) + hours;
            return sum >= 0L && sum <= MOST_DONE;
        }

        void addDone(int part, int hours) {
            if (part >= 0 && part < PARTS) {
                done[part] += hours;
            }
        }

        boolean hasRoomFor(int day, int hours) {
            return mentor != NONE && !releases.has(day) && hoursToday + hours <= MOST_HOURS
                    && pending.size + doubted.size < MOST_ENTRIES;
        }

        void work(int part, int hours, int day) {
            if (hoursToday == 0) {
                workedDays++;
            }
            hoursToday += hours;
            worked.put(day);
            pending.append(part, hours, day, mentor);
        }

        /** Whether its first so many entries that were logged with its mentor can be confirmed. */
        boolean canTakeFirst(int most) {
            for (int part = 0; part < PARTS; part++) {
                if (!canAdd(part, pending.hoursOfFirst(most, mentor, part))) {
                    return false;
                }
            }
            return true;
        }

        int takeFirst(int most) {
            int count = 0;
            int index = 0;
            for (int left = pending.size; left > 0 && count < most; left--) {
                if (pending.valueAt(index, ENTRY_MENTOR) == mentor) {
                    addDone(pending.valueAt(index, ENTRY_PART),
                            pending.valueAt(index, ENTRY_HOURS));
                    pending.removeAt(index);
                    count++;
                } else {
                    index++;
                }
            }
            return count;
        }

        void doubtAt(int index) {
            doubted.append(pending.valueAt(index, ENTRY_PART), pending.valueAt(index, ENTRY_HOURS),
                    pending.valueAt(index, ENTRY_DAY), pending.valueAt(index, ENTRY_MENTOR));
            pending.removeAt(index);
        }

        /** Doubts the pending entries that were logged on a day or earlier. */
        int doubtUntil(int day) {
            int count = 0;
            int index = 0;
            for (int left = pending.size; left > 0; left--) {
                if (pending.valueAt(index, ENTRY_DAY) <= day) {
                    doubtAt(index);
                    count++;
                } else {
                    index++;
                }
            }
            return count;
        }

        int doubtsWith(int newMentor) {
            return pending.size - pending.countWith(newMentor);
        }

        /** Moves it; answers how many entries become doubted. */
        int leadTo(int newMentor) {
            int count = 0;
            int index = 0;
            for (int left = pending.size; left > 0; left--) {
                if (pending.valueAt(index, ENTRY_MENTOR) != newMentor) {
                    doubtAt(index);
                    count++;
                } else {
                    index++;
                }
            }
            mentor = newMentor;
            moves++;
            return count;
        }

        void copyApprentice(Apprentice other) {
            System.arraycopy(other.done, 0, done, 0, PARTS);
            pending.copyEntries(other.pending);
            doubted.copyEntries(other.doubted);
            releases.copyDays(other.releases);
            worked.copyDays(other.worked);
            trade = other.trade;
            mentor = other.mentor;
            refused = other.refused;
            workedDays = other.workedDays;
            hoursToday = other.hoursToday;
            moves = other.moves;
        }
    }

    /**
     * All that undo brings back. Its methods throw nothing: the numbers that they get
     * were looked at by the faultOf... methods before.
     */
    private static final class State {
        private final int[][] needs = new int[MOST_TRADES][PARTS];
        private final Mentor[] mentors = new Mentor[MOST_MENTORS];
        private final Apprentice[] apprentices = new Apprentice[MOST_APPRENTICES];
        // The rows of numbers that stand for none: no index is used untested.
        private final Mentor noMentor = new Mentor();
        private final Apprentice noApprentice = new Apprentice();
        int tradeCount;
        int mentorCount;
        int apprenticeCount;
        int day;

        State() {
            for (int index = 0; index < MOST_MENTORS; index++) {
                mentors[index] = new Mentor();
            }
            for (int index = 0; index < MOST_APPRENTICES; index++) {
                apprentices[index] = new Apprentice();
            }
        }

        void copyState(State other) {
            tradeCount = other.tradeCount;
            mentorCount = other.mentorCount;
            apprenticeCount = other.apprenticeCount;
            day = other.day;
            for (int trade = 0; trade < tradeCount; trade++) {
                System.arraycopy(other.needs[trade], 0, needs[trade], 0, PARTS);
            }
            for (int mentor = 0; mentor < mentorCount; mentor++) {
                mentors[mentor].copyMentor(other.mentors[mentor]);
            }
            for (int index = 0; index < apprenticeCount; index++) {
                apprentices[index].copyApprentice(other.apprentices[index]);
            }
        }

        // ---- what there is

        boolean hasTrade(int trade) {
            return trade >= 0 && trade < tradeCount;
        }

        boolean hasMentor(int mentor) {
            return mentor >= 0 && mentor < mentorCount;
        }

        boolean hasApprentice(int apprentice) {
            return apprentice >= 0 && apprentice < apprenticeCount;
        }

        private Apprentice apprenticeAt(int apprentice) {
            return hasApprentice(apprentice) ? apprentices[apprentice] : noApprentice;
        }

        private Mentor mentorAt(int mentor) {
            return hasMentor(mentor) ? mentors[mentor] : noMentor;
        }

        boolean teaches(int mentor, int trade) {
            return (mentorAt(mentor).trades >> trade & 1) != 0;
        }

        int apprenticesOf(int mentor) {
            int count = 0;
            for (int index = 0; index < apprenticeCount; index++) {
                if (apprentices[index].mentor == mentor) {
                    count++;
                }
            }
            return count;
        }

        boolean isFull(int mentor) {
            return apprenticesOf(mentor) >= mentorAt(mentor).ratio;
        }

        int mentorOf(int apprentice) {
            return apprenticeAt(apprentice).mentor;
        }

        int entryCount(int apprentice, boolean doubted) {
            Apprentice one = apprenticeAt(apprentice);
            return doubted ? one.doubted.size : one.pending.size;
        }

        boolean hasWorked(int apprentice, int onDay) {
            return apprenticeAt(apprentice).worked.has(onDay);
        }

        private int needOf(Apprentice one, int part) {
            boolean known = one.trade >= 0 && one.trade < tradeCount && part >= 0 && part < PARTS;
            return known ? needs[one.trade][part] : 0;
        }

        private int missingIn(Apprentice one, int part) {
            return Math.max(0, needOf(one, part) - one.doneIn(part));
        }

        private boolean isComplete(Apprentice one) {
            for (int part = 0; part < PARTS; part++) {
                if (missingIn(one, part) > 0) {
                    return false;
                }
            }
            return true;
        }

        // ---- what can be done

        boolean canWork(int apprentice, int hours) {
            return apprenticeAt(apprentice).hasRoomFor(day, hours);
        }

        boolean canConfirm(int mentor, int most) {
            int left = most;
            for (int index = 0; index < apprenticeCount; index++) {
                Apprentice one = apprentices[index];
                if (one.mentor == mentor) {
                    if (!one.canTakeFirst(left)) {
                        return false;
                    }
                    left -= Math.min(left, one.pending.countWith(mentor));
                }
            }
            return true;
        }

        boolean canSettle(int apprentice, boolean accept) {
            Apprentice one = apprenticeAt(apprentice);
            if (one.doubted.size == 0 || !accept) {
                return one.doubted.size > 0;
            }
            return one.canAdd(one.doubted.valueAt(0, ENTRY_PART),
                    one.doubted.valueAt(0, ENTRY_HOURS));
        }

        boolean canCredit(int apprentice, int part, int hours) {
            return apprenticeAt(apprentice).canAdd(part, hours);
        }

        /** The reason why an apprentice cannot be moved to a mentor, or 0. */
        int obstacle(int apprentice, int mentor) {
            Apprentice one = apprenticeAt(apprentice);
            if (one.mentor == mentor) {
                return 1;
            }
            if (!teaches(mentor, one.trade)) {
                return 2;
            }
            return isFull(mentor) ? 3 : 0;
        }

        boolean canExchange(int a, int b) {
            Apprentice one = apprenticeAt(a);
            Apprentice other = apprenticeAt(b);
            return one.mentor != NONE && other.mentor != NONE && one.mentor != other.mentor
                    && teaches(one.mentor, other.trade) && teaches(other.mentor, one.trade);
        }

        // ---- what is done

        int putTrade(int first, int second, int third) {
            if (tradeCount >= MOST_TRADES) {
                return NONE;
            }
            needs[tradeCount][0] = first;
            needs[tradeCount][1] = second;
            needs[tradeCount][2] = third;
            tradeCount++;
            return tradeCount - 1;
        }

        int putMentor(int ratio, int trades) {
            if (mentorCount >= MOST_MENTORS) {
                return NONE;
            }
            mentors[mentorCount].begin(ratio, trades);
            mentorCount++;
            return mentorCount - 1;
        }

        int putApprentice(int trade, int mentor) {
            if (apprenticeCount >= MOST_APPRENTICES) {
                return NONE;
            }
            apprentices[apprenticeCount].begin(trade, mentor);
            apprenticeCount++;
            return apprenticeCount - 1;
        }

        int putRelease(int apprentice, int onDay) {
            DaySet releases = apprenticeAt(apprentice).releases;
            releases.put(onDay);
            return releases.size;
        }

        int putWork(int apprentice, int part, int hours) {
            Apprentice one = apprenticeAt(apprentice);
            one.work(part, hours, day);
            return one.pending.size;
        }

        int confirmPending(int mentor, int most) {
            int count = 0;
            for (int index = 0; index < apprenticeCount; index++) {
                if (apprentices[index].mentor == mentor) {
                    count += apprentices[index].takeFirst(most - count);
                }
            }
            mentorAt(mentor).confirmed += count;
            return count;
        }

        int doubtOldest(int apprentice) {
            Apprentice one = apprenticeAt(apprentice);
            int hours = one.pending.valueAt(0, ENTRY_HOURS);
            one.doubtAt(0);
            return hours;
        }

        int settleOldest(int apprentice, boolean accept) {
            Apprentice one = apprenticeAt(apprentice);
            int hours = one.doubted.valueAt(0, ENTRY_HOURS);
            if (accept) {
                one.addDone(one.doubted.valueAt(0, ENTRY_PART), hours);
            } else {
                one.refused += hours;
            }
            one.doubted.removeAt(0);
            return hours;
        }

        int putCredit(int apprentice, int part, int hours) {
            apprenticeAt(apprentice).addDone(part, hours);
            return apprenticeAt(apprentice).doneIn(part);
        }

        /** Ends so many days; answers how many entries become doubted. */
        int passDays(int days) {
            int count = 0;
            for (int ended = 0; ended < days; ended++) {
                for (int index = 0; index < apprenticeCount; index++) {
                    count += apprentices[index].doubtUntil(day - DOUBT_AGE);
                    apprentices[index].hoursToday = 0;
                }
                day++;
            }
            return count;
        }

        int moveTo(int apprentice, int mentor) {
            return apprenticeAt(apprentice).leadTo(mentor);
        }

        int takeFromMentor(int apprentice) {
            int before = apprenticeAt(apprentice).mentor;
            apprenticeAt(apprentice).mentor = NONE;
            return before;
        }

        int exchangeBoth(int a, int b) {
            int mentorOfA = apprenticeAt(a).mentor;
            int count = apprenticeAt(a).leadTo(apprenticeAt(b).mentor);
            return count + apprenticeAt(b).leadTo(mentorOfA);
        }

        // ---- values

        int mentorValue(int mentor, int what) {
            switch (what) {
                case 0: return mentorAt(mentor).ratio;
                case 1: return mentorAt(mentor).trades;
                case 2: return apprenticesOf(mentor);
                case 3: return pendingWith(mentor);
                default: return mentorAt(mentor).confirmed;
            }
        }

        private int pendingWith(int mentor) {
            int count = 0;
            for (int index = 0; index < apprenticeCount; index++) {
                if (apprentices[index].mentor == mentor) {
                    count += apprentices[index].pending.countWith(mentor);
                }
            }
            return count;
        }

        int apprenticeValue(int apprentice, int what) {
            Apprentice one = apprenticeAt(apprentice);
            switch (what) {
                case 0: return one.trade;
                case 1: return one.mentor;
                case 2: return one.pending.size;
                case 3: return one.doubted.size;
                case 4: return one.pending.hoursInAll();
                case 5: return one.doubted.hoursInAll();
                case 6: return one.refused;
                case 7: return one.releases.size;
                case 8: return one.workedDays;
                case 9: return one.hoursToday;
                case 10: return one.moves;
                default: return isComplete(one) ? 1 : 0;
            }
        }

        int partValue(int apprentice, int part, int what) {
            Apprentice one = apprenticeAt(apprentice);
            switch (what) {
                case 0: return needOf(one, part);
                case 1: return one.doneIn(part);
                case 2: return missingIn(one, part);
                case 3: return one.pending.hoursOfPart(part);
                default: return one.doubted.hoursOfPart(part);
            }
        }

        int entryValue(int apprentice, boolean doubted, int index, int what) {
            Apprentice one = apprenticeAt(apprentice);
            return doubted ? one.doubted.valueAt(index, what) : one.pending.valueAt(index, what);
        }

        int wholeValue(int what) {
            switch (what) {
                case 0: return tradeCount;
                case 1: return mentorCount;
                case 2: return apprenticeCount;
                case 3: return day;
                case 7: return apprenticesOf(NONE);
                default: return sumOfApprentices(what);
            }
        }

        private int sumOfApprentices(int what) {
            int sum = 0;
            for (int index = 0; index < apprenticeCount; index++) {
                Apprentice one = apprentices[index];
                switch (what) {
                    case 4: sum += one.pending.size; break;
                    case 5: sum += one.doubted.size; break;
                    case 6: sum += isComplete(one) ? 1 : 0; break;
                    default: sum += one.refused; break;
                }
            }
            return sum;
        }

        // ---- what if

        int completionDay(int apprentice, int hours) {
            Apprentice one = apprenticeAt(apprentice);
            // What is too much for a part goes into the next one, so the sum alone counts.
            int missing = 0;
            for (int part = 0; part < PARTS; part++) {
                missing += Math.max(0, missingIn(one, part) - one.pending.hoursOfPart(part));
            }
            if (missing == 0) {
                return day;
            }
            for (int ahead = 0; ahead < FORESEEN_DAYS; ahead++) {
                missing -= one.releases.has(day + ahead) ? 0 : hours;
                if (missing <= 0) {
                    return day + ahead;
                }
            }
            return NONE;
        }

        int leastBusyMentor(int apprentice) {
            int best = NONE;
            for (int mentor = 0; mentor < mentorCount; mentor++) {
                if (obstacle(apprentice, mentor) == 0
                        && (best == NONE || isLessBusy(mentor, best))) {
                    best = mentor;
                }
            }
            return best;
        }

        private boolean isLessBusy(int mentor, int other) {
            return (apprenticesOf(mentor) + 1) * mentorAt(other).ratio
                    < (apprenticesOf(other) + 1) * mentorAt(mentor).ratio;
        }

        int doubtsOfExchange(int a, int b) {
            return apprenticeAt(a).doubtsWith(apprenticeAt(b).mentor)
                    + apprenticeAt(b).doubtsWith(apprenticeAt(a).mentor);
        }

        int firstRelease(int apprentice, int fromDay) {
            return apprenticeAt(apprentice).releases.firstFrom(fromDay);
        }
    }
}
