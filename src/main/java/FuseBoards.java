import java.util.Arrays;

/** A house of boards that feed one another through fuses, with loads, texts, undo and saved states. */
public final class FuseBoards {
    public static final int NO_SUCH = -1, BAD_VALUE = -2, BAD_TEXT = -3, TOO_MANY = -4, NOT_POSSIBLE = -5, NONE = -6;
    public static final int ARC = 0, COOL = 1, AGE = 2;

    private static final int SLOTS = 2;
    private static final int MOST_STATES = 6;
    // One place more than states are kept: the state ahead of a change is written before it is known
    // whether the change returns an error, and must not cost the oldest state then.
    private static final int PLACES = MOST_STATES + 1;
    private static final int MOST_FAULT_CURRENT = 9999;
    private static final int LEAST_TIMES = 2, MOST_TIMES = 20;
    private static final int TRIAL_TICKS = 200;
    private static final int IN_HOW_MANY_TICKS = 0, WHICH_BOARD = 1;

    private final House now = new House();
    private final House trial = new House();
    private final Pad pad = new Pad();
    private final int[][] history = new int[PLACES][House.SIZE];
    private final int[][] slots = new int[SLOTS][House.SIZE];
    private final boolean[] saved = new boolean[SLOTS];
    private int spare = 0;
    private int undoable = 0;

    public FuseBoards() {
    }

    // ---- changes

    public int set(int setting, int value) {
        noteState();
        return keepUnlessError(now.changeSetting(setting, value));
    }

    public int board(int from, int rating, int kind) {
        noteState();
        return keepUnlessError(now.addBoard(from, rating, kind));
    }

    public int load(int board, int current) {
        noteState();
        return keepUnlessError(now.addLoad(board, current));
    }

    public int turn(int load) {
        noteState();
        return keepUnlessError(now.switchLoad(load));
    }

    public int fuse(int board, int rating, int kind) {
        noteState();
        return keepUnlessError(now.changeFuse(board, rating, kind));
    }

    public int pass(int ticks) {
        noteState();
        return keepUnlessError(now.letPass(ticks));
    }

    // ---- what there is

    public int of(int board, int what) {
        if (!now.isBoard(board)) return NO_SUCH;
        return now.aboutBoard(board, what);
    }

    public int ofLoad(int load, int what) {
        if (!now.isLoad(load)) return NO_SUCH;
        return now.aboutLoad(load, what);
    }

    public int fed(int board) {
        if (!now.isBoard(board)) return NO_SUCH;
        return now.fedThrough(board);
    }

    public int blown(int rank) {
        return now.latestBlown(rank);
    }

    public int count(int what) {
        if (what == 12) return pad.length();
        if (what == 13) return undoable;
        return now.aboutHouse(what);
    }

    // ---- what if

    public int next(int what) {
        if (!isTrialQuestion(what)) return BAD_VALUE;
        trial.copyFrom(now);
        return firstBlow(what);
    }

    public int test(int board, int current, int what) {
        if (!now.isBoard(board)) return NO_SUCH;
        if (current < 1 || current > MOST_FAULT_CURRENT || !isTrialQuestion(what)) return BAD_VALUE;
        return tryFault(board, current, what);
    }

    public int unfair(int times) {
        if (times < LEAST_TIMES || times > MOST_TIMES) return BAD_VALUE;
        int found = 0;
        for (int b = 0; b < now.boards(); b++) {
            int first = tryFault(b, times * now.rating(b), WHICH_BOARD);
            if (first != NONE && first != b) found |= 1 << b;
        }
        return found;
    }

    public int ifOpen(int board) {
        if (!now.isBoard(board)) return NO_SUCH;
        return now.workingLoadsAt(now.fedThrough(board));
    }

    // ---- texts

    public int put(long characters) {
        return pad.append(characters);
    }

    public int wipe() {
        return pad.clear();
    }

    public int fault() {
        return pad.findFault();
    }

    public int carryOut() {
        if (pad.findFault() != NONE) return BAD_TEXT;
        noteState();
        int done = 0;
        boolean more = pad.readFirstOrder();
        while (more && done < Pad.MOST_CHARACTERS && obeyOrder() >= 0) {
            done++;
            more = pad.readNextOrder();
        }
        pad.clear();
        return keepUnlessError(done);
    }

    // ---- undo, saving

    public int undo() {
        if (undoable == 0) return NOT_POSSIBLE;
        undoable--;
        spare = (spare + PLACES - 1) % PLACES;
        now.readFrom(history[spare]);
        return undoable;
    }

    public int save(int slot) {
        if (!isSlot(slot)) return BAD_VALUE;
        now.writeTo(slots[slot]);
        saved[slot] = true;
        return now.boards();
    }

    public int restore(int slot) {
        if (!isSlot(slot)) return BAD_VALUE;
        if (!saved[slot]) return NOT_POSSIBLE;
        noteState();
        now.readFrom(slots[slot]);
        return keepUnlessError(now.boards());
    }

    private static boolean isSlot(int slot) {
        return slot >= 0 && slot < SLOTS;
    }

    /** Writes the state to the spare place of the history, which counts only once it is kept. */
    private void noteState() {
        now.writeTo(history[spare]);
    }

    private int keepUnlessError(int answer) {
        if (answer < 0) return answer;
        spare = (spare + 1) % PLACES;
        undoable = Math.min(MOST_STATES, undoable + 1);
        return answer;
    }

    private static boolean isTrialQuestion(int what) {
        return what == IN_HOW_MANY_TICKS || what == WHICH_BOARD;
    }

    private int tryFault(int board, int current, int what) {
        trial.copyFrom(now);
        trial.leaveOnlyFault(board, current);
        return firstBlow(what);
    }

    /** Lets the trial run up to its first blown fuse. */
    private int firstBlow(int what) {
        for (int ticks = 1; ticks <= TRIAL_TICKS; ticks++) {
            int blowing = trial.tick();
            if (blowing != 0) return what == IN_HOW_MANY_TICKS ? ticks : lowest(blowing);
        }
        return NONE;
    }

    private static int lowest(int boards) {
        int b = 0;
        while (b < House.MOST_BOARDS - 1 && (boards >> b & 1) == 0) b++;
        return b;
    }

    /** Carries out the order that the pad's reader has read. */
    private int obeyOrder() {
        switch (pad.letter()) {
            case 'b': return now.addBoard(pad.digit(), pad.number(), pad.kind());
            case 'l': return now.addLoad(pad.digit(), pad.number());
            case 's': return now.switchLoad(pad.number());
            case 'f': return now.changeFuse(pad.digit(), pad.number(), pad.kind());
            case 't': return now.letPass(pad.number());
            default: return BAD_TEXT;
        }
    }

    /** Everything that undo and saving bring back. */
    private static final class House {
        static final int MOST_BOARDS = 10;
        private static final int MOST_LOADS = 14;
        private static final int MOST_LATEST = 8;
        private static final int MOST_RATING = 100;
        private static final int MOST_CURRENT = 200;
        private static final int MOST_TICKS = 99;
        private static final int MOST_TIME = 9999;
        private static final int MOST_HEAT = 1000000;
        private static final int HEAT_LOST_BY_AGE = 20;
        private static final int QUICK = 0, SLOW = 1, OLD = 2;
        private static final int WHOLE = 0, BURNS = 1, IS_OPEN = 2;
        private static final int[] LEAST_VALUES = {0, 1, 1};
        private static final int[] MOST_VALUES = {9, 9, 50};

        // All of it stands in one row, so that it is copied whole and no part can be forgotten.
        // The settings come first, at ARC, COOL and AGE; ON and OPEN are sets of loads and boards.
        private static final int TIME = 3, BOARDS = 4, LOADS = 5, ON = 6, OPEN = 7, BLOWS = 8;
        private static final int LATEST = 9;
        private static final int FROM = LATEST + MOST_LATEST;
        private static final int RATING = FROM + MOST_BOARDS;
        private static final int KIND = RATING + MOST_BOARDS;
        private static final int ARC_LEFT = KIND + MOST_BOARDS;
        private static final int HEAT = ARC_LEFT + MOST_BOARDS;
        private static final int STEPS = HEAT + MOST_BOARDS;
        private static final int CREPT = STEPS + MOST_BOARDS;
        private static final int BLOWS_HERE = CREPT + MOST_BOARDS;
        private static final int PLACE = BLOWS_HERE + MOST_BOARDS;
        private static final int CURRENT = PLACE + MOST_LOADS;
        static final int SIZE = CURRENT + MOST_LOADS;

        private final int[] row = new int[SIZE];
        // The current of each fuse, as it was added up last: not a part of the state.
        private final int[] flow = new int[MOST_BOARDS];

        House() {
            row[ARC] = 1;
            row[COOL] = 2;
            row[AGE] = 10;
        }

        void copyFrom(House other) {
            System.arraycopy(other.row, 0, row, 0, SIZE);
        }

        void readFrom(int[] kept) {
            if (kept.length >= SIZE) System.arraycopy(kept, 0, row, 0, SIZE);
        }

        void writeTo(int[] kept) {
            if (kept.length >= SIZE) System.arraycopy(row, 0, kept, 0, SIZE);
        }

        int boards() {
            return row[BOARDS];
        }

        boolean isBoard(int board) {
            return board >= 0 && board < row[BOARDS];
        }

        boolean isLoad(int load) {
            return load >= 0 && load < row[LOADS];
        }

        int rating(int board) {
            return isBoard(board) ? row[RATING + board] : 0;
        }

        // ---- changes

        int changeSetting(int setting, int value) {
            if (setting < ARC || setting > AGE) return BAD_VALUE;
            if (value < LEAST_VALUES[setting] || value > MOST_VALUES[setting]) return BAD_VALUE;
            int before = row[setting];
            row[setting] = value;
            return before;
        }

        int addBoard(int from, int rating, int kind) {
            int board = row[BOARDS];
            if (board > 0 && !isBoard(from)) return NO_SUCH;
            if (!isFuse(rating, kind)) return BAD_VALUE;
            if (board >= MOST_BOARDS) return TOO_MANY;
            row[FROM + board] = board == 0 ? 0 : from;
            putNewFuse(board, rating, kind);
            row[BOARDS] = board + 1;
            return board;
        }

        int addLoad(int board, int current) {
            int load = row[LOADS];
            if (!isBoard(board)) return NO_SUCH;
            if (current < 1 || current > MOST_CURRENT) return BAD_VALUE;
            if (load >= MOST_LOADS) return TOO_MANY;
            row[PLACE + load] = board;
            row[CURRENT + load] = current;
            row[LOADS] = load + 1;
            return load;
        }

        int switchLoad(int load) {
            if (!isLoad(load)) return NO_SUCH;
            row[ON] ^= 1 << load;
            return row[ON] >> load & 1;
        }

        int changeFuse(int board, int rating, int kind) {
            if (!isBoard(board)) return NO_SUCH;
            if (!isFuse(rating, kind)) return BAD_VALUE;
            if (row[ARC_LEFT + board] > 0) return NOT_POSSIBLE;
            int before = row[RATING + board];
            putNewFuse(board, rating, kind);
            return before;
        }

        int letPass(int ticks) {
            if (ticks < 1 || ticks > MOST_TICKS) return BAD_VALUE;
            if (row[TIME] + ticks > MOST_TIME) return NOT_POSSIBLE;
            int blows = 0;
            for (int i = 0; i < ticks; i++) blows += Integer.bitCount(tick());
            return blows;
        }

        /** Makes a trial's house one in which nothing is on but a fault, and every fuse is cold. */
        void leaveOnlyFault(int board, int current) {
            Arrays.fill(row, HEAT, HEAT + MOST_BOARDS, 0);
            row[PLACE] = board;
            row[CURRENT] = current;
            row[LOADS] = 1;
            row[ON] = 1;
        }

        private static boolean isFuse(int rating, int kind) {
            return rating >= 1 && rating <= MOST_RATING && kind >= QUICK && kind <= OLD;
        }

        private void putNewFuse(int board, int rating, int kind) {
            row[RATING + board] = rating;
            row[KIND + board] = kind;
            row[ARC_LEFT + board] = 0;
            row[HEAT + board] = 0;
            row[STEPS + board] = 0;
            row[CREPT + board] = 0;
            row[OPEN] &= ~(1 << board);
        }

        // ---- a tick

        /** Lets one tick pass; returns the boards whose fuses blow in it, as a set. */
        int tick() {
            addUpCurrents();
            burnArcs();
            for (int b = 0; b < row[BOARDS]; b++) {
                if (state(b) == WHOLE) warm(b, flow[b]);
            }
            int blowing = nearestOf(molten());
            // The lowest board comes first, so that the highest one counts as the latest.
            for (int b = 0; b < row[BOARDS]; b++) {
                if ((blowing >> b & 1) != 0) blow(b);
            }
            row[TIME]++;
            return blowing;
        }

        private void addUpCurrents() {
            Arrays.fill(flow, 0);
            int dead = deadBoards();
            for (int i = 0; i < row[LOADS]; i++) {
                boolean works = (row[ON] >> i & 1) != 0 && (dead >> row[PLACE + i] & 1) == 0;
                if (works) addFlow(row[PLACE + i], row[CURRENT + i]);
            }
            // Each board is fed from a lower one, so what it takes is whole before it is passed on.
            for (int b = row[BOARDS] - 1; b > 0; b--) addFlow(row[FROM + b], flow[b]);
        }

        private void addFlow(int board, int current) {
            if (board >= 0 && board < MOST_BOARDS) flow[board] += current;
        }

        private void burnArcs() {
            for (int b = 0; b < row[BOARDS]; b++) {
                if (row[ARC_LEFT + b] == 0) continue;
                row[ARC_LEFT + b]--;
                if (row[ARC_LEFT + b] == 0) row[OPEN] |= 1 << b;
            }
        }

        private void warm(int board, int current) {
            int rating = row[RATING + board];
            int heat = row[HEAT + board];
            int above = current * current - rating * rating;
            int below = rating * rating - current * current;
            if (current > rating) row[HEAT + board] = Math.min(MOST_HEAT, heat + above);
            else row[HEAT + board] = Math.max(0, heat - below / Math.max(1, row[COOL]));
            if (row[KIND + board] == OLD && 2 * current > rating) creep(board);
        }

        private void creep(int board) {
            row[CREPT + board]++;
            if (row[CREPT + board] < row[AGE]) return;
            row[CREPT + board] = 0;
            row[STEPS + board]++;
        }

        private int molten() {
            int molten = 0;
            for (int b = 0; b < row[BOARDS]; b++) {
                if (state(b) == WHOLE && row[HEAT + b] >= meltingHeat(b)) molten |= 1 << b;
            }
            return molten;
        }

        private int nearestOf(int molten) {
            int nearest = 0;
            for (int b = 0; b < row[BOARDS]; b++) {
                if ((fedThrough(b) & molten) == 1 << b) nearest |= 1 << b;
            }
            return nearest;
        }

        private void blow(int board) {
            row[ARC_LEFT + board] = row[ARC];
            if (row[ARC] == 0) row[OPEN] |= 1 << board;
            row[BLOWS]++;
            row[BLOWS_HERE + board]++;
            System.arraycopy(row, LATEST, row, LATEST + 1, MOST_LATEST - 1);
            row[LATEST] = board;
        }

        // ---- what there is

        int aboutBoard(int board, int what) {
            if (!isBoard(board)) return NO_SUCH;
            switch (what) {
                case 0: return board == 0 ? NONE : row[FROM + board];
                case 1: return row[RATING + board];
                case 2: return row[KIND + board];
                case 3: return state(board);
                case 4: return current(board);
                case 5: return row[HEAT + board];
                case 6: return meltingHeat(board);
                case 7: return row[STEPS + board];
                case 8: return deadBoards() >> board & 1;
                case 9: return boardsAhead(board);
                case 10: return row[ARC_LEFT + board];
                case 11: return row[BLOWS_HERE + board];
                default: return BAD_VALUE;
            }
        }

        int aboutLoad(int load, int what) {
            if (!isLoad(load)) return NO_SUCH;
            switch (what) {
                case 0: return row[PLACE + load];
                case 1: return row[CURRENT + load];
                case 2: return row[ON] >> load & 1;
                case 3: return workingLoadsAt(allBoards()) >> load & 1;
                default: return BAD_VALUE;
            }
        }

        int aboutHouse(int what) {
            switch (what) {
                case 0: return row[TIME];
                case 1: return row[BOARDS];
                case 2: return row[LOADS];
                case 3: return deadBoards();
                case 4: return workingLoadsAt(allBoards());
                case 5: return row[OPEN];
                case 6: return burningBoards();
                case 7: return row[BLOWS];
                case 8: return current(0);
                case 9: return row[ARC];
                case 10: return row[COOL];
                case 11: return row[AGE];
                default: return BAD_VALUE;
            }
        }

        int latestBlown(int rank) {
            if (rank < 0 || rank >= MOST_LATEST || rank >= row[BLOWS]) return NO_SUCH;
            return row[LATEST + rank];
        }

        int fedThrough(int board) {
            if (!isBoard(board)) return 0;
            int fed = 1 << board;
            for (int b = board + 1; b < row[BOARDS]; b++) {
                if ((fed >> row[FROM + b] & 1) != 0) fed |= 1 << b;
            }
            return fed;
        }

        /** The loads that work at some boards, as a set. */
        int workingLoadsAt(int boards) {
            int live = boards & ~deadBoards();
            int working = 0;
            for (int i = 0; i < row[LOADS]; i++) {
                if ((live >> row[PLACE + i] & 1) != 0) working |= 1 << i;
            }
            return working & row[ON];
        }

        private int allBoards() {
            return (1 << row[BOARDS]) - 1;
        }

        private int deadBoards() {
            int dead = row[OPEN];
            for (int b = 1; b < row[BOARDS]; b++) {
                if ((dead >> row[FROM + b] & 1) != 0) dead |= 1 << b;
            }
            return dead;
        }

        private int burningBoards() {
            int burning = 0;
            for (int b = 0; b < row[BOARDS]; b++) {
                if (row[ARC_LEFT + b] > 0) burning |= 1 << b;
            }
            return burning;
        }

        private int state(int board) {
            if ((row[OPEN] >> board & 1) != 0) return IS_OPEN;
            return row[ARC_LEFT + board] > 0 ? BURNS : WHOLE;
        }

        private int current(int board) {
            addUpCurrents();
            return flow[board];
        }

        private int meltingHeat(int board) {
            int rating = row[RATING + board];
            int fresh = rating * rating * heatFactor(row[KIND + board]);
            return Math.max(1, fresh - HEAT_LOST_BY_AGE * rating * row[STEPS + board]);
        }

        private static int heatFactor(int kind) {
            switch (kind) {
                case QUICK: return 8;
                case SLOW: return 40;
                default: return 20;
            }
        }

        private int boardsAhead(int board) {
            int ahead = 0;
            int at = board;
            for (int b = board; b > 0; b--) {
                if (b != at) continue;
                at = row[FROM + b];
                ahead++;
            }
            return ahead;
        }
    }

    /** A text of orders, and a reader that goes through it from left to right. */
    private static final class Pad {
        static final int MOST_CHARACTERS = 80;
        private static final int MOST_AT_ONCE = 8;
        private static final int MOST_DIGITS = 3;
        private static final int LEAST_CODE = 33, MOST_CODE = 126;
        private static final int NO_CODE = 0;

        private final int[] codes = new int[MOST_CHARACTERS];
        private int length = 0;
        // Where the reader is, and the parts of the order that it read last.
        private int at = 0;
        private int letter = 0, digit = 0, number = 0, kind = 0;

        Pad() {
        }

        int length() {
            return length;
        }

        int letter() {
            return letter;
        }

        int digit() {
            return digit;
        }

        int number() {
            return number;
        }

        int kind() {
            return kind;
        }

        int append(long characters) {
            int more = countCharacters(characters);
            if (more == 0) return BAD_VALUE;
            if (length + more > MOST_CHARACTERS) return TOO_MANY;
            for (int i = 0; i < more; i++) codes[length + more - 1 - i] = codeIn(characters, i);
            length += more;
            return length;
        }

        int clear() {
            int before = length;
            length = 0;
            return before;
        }

        int findFault() {
            boolean more = readFirstOrder();
            for (int i = 0; more && i < MOST_CHARACTERS; i++) {
                if (at == length) return NONE;
                more = readNextOrder();
            }
            return at;
        }

        boolean readFirstOrder() {
            at = 0;
            return readOrder();
        }

        boolean readNextOrder() {
            return skip(';') && readOrder();
        }

        /** How many characters are given, 0 if they can't be taken. */
        private static int countCharacters(long characters) {
            int found = 0;
            while (found < MOST_AT_ONCE && codeIn(characters, found) != NO_CODE) {
                int code = codeIn(characters, found);
                if (code < LEAST_CODE || code > MOST_CODE) return 0;
                found++;
            }
            if (found < MOST_AT_ONCE && characters >>> 8 * found != 0) return 0;
            return found;
        }

        private static int codeIn(long characters, int fromLast) {
            return (int) (characters >>> 8 * fromLast) & 255;
        }

        // Each reading step leaves the reader on the character that can't stand there, if it fails.

        private boolean readOrder() {
            letter = codeHere();
            switch (letter) {
                case 'b':
                case 'f': return skip(letter) && readDigit() && skip('.') && readNumber() && readKind();
                case 'l': return skip(letter) && readDigit() && skip('=') && readNumber();
                case 's':
                case 't': return skip(letter) && readNumber();
                default: return false;
            }
        }

        private boolean readDigit() {
            if (!isDigitHere()) return false;
            digit = codeHere() - '0';
            at++;
            return true;
        }

        private boolean readNumber() {
            if (!isDigitHere()) return false;
            number = 0;
            // A digit more than these is left standing, and nothing that may follow a number is a digit.
            for (int i = 0; i < MOST_DIGITS && isDigitHere(); i++) {
                number = number * 10 + codeHere() - '0';
                at++;
                if (number == 0) return true;
            }
            return true;
        }

        private boolean readKind() {
            switch (codeHere()) {
                case 'q': kind = 0; break;
                case 's': kind = 1; break;
                case 'o': kind = 2; break;
                default: return false;
            }
            at++;
            return true;
        }

        private boolean skip(int code) {
            if (codeHere() != code) return false;
            at++;
            return true;
        }

        private boolean isDigitHere() {
            return codeHere() >= '0' && codeHere() <= '9';
        }

        private int codeHere() {
            return at >= 0 && at < length ? codes[at] : NO_CODE;
        }
    }
}
