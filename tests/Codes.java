/** The document's numbers once more, so that a test does not take them from the class that it tests. */
interface Codes {
    int NO_SUCH = -1, BAD_VALUE = -2, BAD_TEXT = -3, TOO_MANY = -4, NOT_POSSIBLE = -5, NONE = -6;
    int ARC = 0, COOL = 1, AGE = 2;
    int QUICK = 0, SLOW = 1, OLD = 2;
    int WHOLE = 0, BURNS = 1, OPEN = 2;
    int LOW = Integer.MIN_VALUE, HIGH = Integer.MAX_VALUE;

    // What of(), ofLoad() and count() are asked for.
    int FROM = 0, RATING = 1, KIND = 2, STATE = 3, CURRENT = 4, HEAT = 5, MELTING = 6, STEPS = 7, DEAD = 8, AHEAD = 9,
        ARC_LEFT = 10, BLEW_HERE = 11;
    int IS_ON = 2, WORKS = 3;
    int TIME = 0, BOARDS = 1, LOADS = 2, ALL_DEAD = 3, ALL_WORKING = 4, ALL_OPEN = 5, ALL_BURNING = 6, BLEW = 7, AT_BOARD_0 = 8,
        SETTINGS = 9, PAD = 12, UNDOABLE = 13;
    int IN_TICKS = 0, ITS_BOARD = 1;
}
