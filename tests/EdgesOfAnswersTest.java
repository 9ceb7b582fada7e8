/** What the document names as an edge in the promises 8 to 16, each in a test of its own. */
public final class EdgesOfAnswersTest implements Codes {
    private static final int[] NO_BOARDS = {LOW, -1, 10, 11, HIGH};

    public static void main(String[] args) {
        housesAreWhatTheySay();
        ofNoSuchBoard();
        ofBoardsUpToTheLast();
        whatOfABoardIs0To11();
        noneIsForTheBoard0Alone();
        boardsAheadAre0To9();
        blownHereIsCountedUp(0);
        blownHereIsCountedUp(9);
        ofLoadWithNoSuchLoad();
        whatOfALoadIs0To3();
        loadWorksOnlyOnAndNotDead();
        fedCountsItself();
        fedIsStructureAlone();
        fedOfNoSuchBoard();
        blownOfNone();
        blownOfTheLatest8Alone();
        blownOfNineInOneTick();
        blownHighestOfATickFirst();
        whatOfAllIs0To13();
        countsWhenEmpty();
        countsWhenFull();
        countsOfAllTenBoards();
        nextIsAskedForTwoThings();
        nextInTheFirstTick();
        nextWithin200Ticks();
        nextOfNoneAtAll();
        nextTellsTheLowestOfSeveral();
        nextAtTheTime9999();
        testErrorsInTheirOrder();
        testCurrentIs1To9999();
        testWithin200Ticks();
        testBeginsWithHeat0AndNoLoads();
        testKeepsAgeAndWhatItHasCrept();
        testKeepsArcs();
        testAtADeadBoard();
        testWithFourteenLoads();
        testAtTheTime9999();
        timesAre2To20();
        unfairAtThe20();
        unfairAtThe2();
        unfairBeginsWithHeat0AndNoLoads();
        unfairAtTheTime9999();
        unfairAtADeadBoard();
        unfairOfNoBoards();
        unfairOfTenBoards();
        ifOpenOfNoSuchBoard();
        ifOpenOfNoLoads();
        ifOpenOfFourteenLoads();
        ifOpenWithoutThoseThatWorkNoMore();
        questionsChangeNothing();
        Due.end();
    }

    private static void housesAreWhatTheySay() {
        FuseBoards x = Houses.full();
        Due.is("full: the time", x.count(TIME), 9999);
        Due.is("full: boards", x.count(BOARDS), 10);
        Due.is("full: loads", x.count(LOADS), 14);
        Due.is("full: pad", x.count(PAD), 80);
        Due.is("full: states", x.count(UNDOABLE), 6);
        Due.isTrue("full: blown fuses", x.count(BLEW) > 8);
        Due.is("full: slots", x.restore(0) + x.restore(1), 20);
        FuseBoards y = Houses.busy();
        Due.is("busy: states", y.count(UNDOABLE), 6);
        Due.is("busy: 2 burns", y.count(ALL_BURNING), 4);
        Due.is("busy: 3 is open", y.count(ALL_OPEN), 8);
        Due.isTrue("busy: 4 is hot", y.of(4, HEAT) > 0);
        Due.is("busy: slot 0", y.restore(0), 5);
        Due.is("busy: slot 1", y.restore(1), NOT_POSSIBLE);
    }

    // ---- promise 8

    private static void ofNoSuchBoard() {
        for (int what : new int[] {LOW, -1, 0, 11, 12, HIGH}) {
            for (int board : NO_BOARDS) Due.is("8: of ten", Houses.full().of(board, what), NO_SUCH);
            for (int board : new int[] {LOW, -1, 5, 10, HIGH}) Due.is("8: of five", Houses.busy().of(board, what), NO_SUCH);
            Due.is("8: of none", new FuseBoards().of(0, what), NO_SUCH);
        }
    }

    private static void ofBoardsUpToTheLast() {
        FuseBoards x = new FuseBoards();
        for (int b = 0; b < 10; b++) {
            Due.is("8: not yet", x.of(b, RATING), NO_SUCH);
            x.board(b / 2, 10 + b, b % 3);
            Due.is("8: rating", x.of(b, RATING), 10 + b);
            Due.is("8: kind", x.of(b, KIND), b % 3);
            Due.is("8: from", x.of(b, FROM), b == 0 ? NONE : b / 2);
            x.undo();
            Due.is("8: no more", x.of(b, RATING), NO_SUCH);
            x.board(b / 2, 10 + b, b % 3);
        }
    }

    private static void whatOfABoardIs0To11() {
        FuseBoards x = Houses.inARow(10, 5, OLD);
        for (int b : new int[] {0, 9}) {
            for (int what : new int[] {LOW, -1, 12, 13, HIGH}) Due.is("8: what " + what, x.of(b, what), BAD_VALUE);
            int[] due = {b == 0 ? NONE : 8, 5, OLD, WHOLE, 0, 0, 500, 0, 0, b, 0, 0};
            for (int what = FROM; what <= BLEW_HERE; what++) Due.is("8: what " + what, x.of(b, what), due[what]);
        }
    }

    private static void noneIsForTheBoard0Alone() {
        FuseBoards x = Houses.inARow(10, 5, OLD);
        Due.is("8: NONE", x.of(0, FROM), NONE);
        for (int b = 1; b < 10; b++) Due.is("8: a board", x.of(b, FROM), b - 1);
        Due.is("8: an error comes before NONE", x.of(10, FROM), NO_SUCH);
    }

    private static void boardsAheadAre0To9() {
        FuseBoards row = Houses.inARow(10, 5, OLD);
        FuseBoards star = new FuseBoards();
        for (int b = 0; b < 10; b++) star.board(0, 5, OLD);
        for (int b = 0; b < 10; b++) {
            Due.is("8: in a row", row.of(b, AHEAD), b);
            Due.is("8: at the board 0", star.of(b, AHEAD), b == 0 ? 0 : 1);
        }
        FuseBoards tree = new FuseBoards();
        int[] from = {0, 0, 1, 1, 3, 0, 5, 4, 7, 2}, ahead = {0, 1, 2, 2, 3, 1, 2, 4, 5, 3};
        for (int b = 0; b < 10; b++) tree.board(from[b], 5, OLD);
        for (int b = 0; b < 10; b++) Due.is("8: in a tree", tree.of(b, AHEAD), ahead[b]);
    }

    private static void blownHereIsCountedUp(int board) {
        FuseBoards x = Houses.last(board, 1, QUICK, 90);
        x.set(ARC, 0);
        for (int blows = 1; blows <= 12; blows++) {
            x.pass(1);
            Due.is("8: blown here", x.of(board, BLEW_HERE), blows);
            Due.is("8: blown at all", x.count(BLEW), blows);
            x.fuse(board, 1, QUICK);
        }
        for (int b = 0; b < board; b++) Due.is("8: blown at another", x.of(b, BLEW_HERE), 0);
    }

    // ---- promise 9

    private static void ofLoadWithNoSuchLoad() {
        for (int what : new int[] {LOW, -1, 0, 3, 4, HIGH}) {
            for (int load : new int[] {LOW, -1, 14, 15, 32, HIGH}) Due.is("9: of 14", Houses.full().ofLoad(load, what), NO_SUCH);
            for (int load : new int[] {LOW, -1, 5, 14, HIGH}) Due.is("9: of 5", Houses.busy().ofLoad(load, what), NO_SUCH);
            Due.is("9: of none", new FuseBoards().ofLoad(0, what), NO_SUCH);
        }
    }

    private static void whatOfALoadIs0To3() {
        FuseBoards x = Houses.inARow(10, 100, SLOW);
        for (int i = 0; i < 14; i++) x.load(9 - i % 10, 187 + i);
        x.turn(13);
        for (int i : new int[] {0, 13}) {
            for (int what : new int[] {LOW, -1, 4, 5, HIGH}) Due.is("9: what " + what, x.ofLoad(i, what), BAD_VALUE);
            int[] due = {i == 0 ? 9 : 6, 187 + i, i == 0 ? 0 : 1, i == 0 ? 0 : 1};
            for (int what = 0; what <= WORKS; what++) Due.is("9: what " + what, x.ofLoad(i, what), due[what]);
        }
    }

    private static void loadWorksOnlyOnAndNotDead() {
        FuseBoards x = Houses.inARow(2, 1, QUICK);
        x.load(1, 3);
        Due.is("9: off, not dead", x.ofLoad(0, WORKS), 0);
        x.turn(0);
        Due.is("9: on, not dead", x.ofLoad(0, WORKS), 1);
        x.pass(1);
        Due.is("9: on, in an arc", x.ofLoad(0, WORKS), 1);
        x.pass(1);
        Due.is("9: on, dead", x.ofLoad(0, WORKS), 0);
        Due.is("9: still on", x.ofLoad(0, IS_ON), 1);
        x.turn(0);
        Due.is("9: off, dead", x.ofLoad(0, WORKS), 0);
        x.turn(0);
        x.fuse(1, 100, SLOW);
        Due.is("9: on, with a new fuse and an arc at 0", x.ofLoad(0, WORKS), 1);
        x.pass(1);
        Due.is("9: on, dead by 0", x.ofLoad(0, WORKS), 0);
    }

    // ---- promise 10

    private static void fedCountsItself() {
        FuseBoards row = Houses.inARow(10, 5, OLD);
        FuseBoards star = new FuseBoards();
        for (int b = 0; b < 10; b++) star.board(0, 5, OLD);
        for (int b = 0; b < 10; b++) {
            Due.is("10: in a row", row.fed(b), 1023 & -1 << b);
            Due.is("10: at the board 0", star.fed(b), b == 0 ? 1023 : 1 << b);
        }
        Due.is("10: one alone", Houses.inARow(1, 5, OLD).fed(0), 1);
    }

    private static void fedIsStructureAlone() {
        FuseBoards x = Houses.inARow(10, 1, QUICK);
        x.set(ARC, 3);
        Houses.lit(x, 9, 200);
        for (int tick = 0; tick < 14; tick++) {
            for (int b = 0; b < 10; b++) Due.is("10: whatever burns or is open", x.fed(b), 1023 & -1 << b);
            x.pass(1);
        }
        Due.is("10: all are open", x.count(ALL_OPEN), 1023);
    }

    private static void fedOfNoSuchBoard() {
        for (int board : NO_BOARDS) Due.is("10: of ten", Houses.full().fed(board), NO_SUCH);
        for (int board : new int[] {LOW, -1, 5, 10, HIGH}) Due.is("10: of five", Houses.busy().fed(board), NO_SUCH);
        for (int board : new int[] {-1, 0, 1}) Due.is("10: of none", new FuseBoards().fed(board), NO_SUCH);
    }

    // ---- promise 11

    private static void blownOfNone() {
        FuseBoards x = Houses.inARow(10, 5, OLD);
        for (int rank : new int[] {LOW, -1, 0, 1, 7, 8, HIGH}) Due.is("11: none", x.blown(rank), NO_SUCH);
        Houses.lit(x, 7, 200);
        x.pass(1);
        Due.is("11: one", x.blown(0), 7);
        for (int rank : new int[] {LOW, -1, 1, 7, 8, HIGH}) Due.is("11: no other one", x.blown(rank), NO_SUCH);
    }

    private static void blownOfTheLatest8Alone() {
        FuseBoards x = Houses.inARow(10, 1, QUICK);
        x.set(ARC, 0);
        Houses.lit(x, 9, 200);
        for (int blows = 1; blows <= 10; blows++) {
            x.pass(1);
            for (int rank = 0; rank < 10; rank++) {
                boolean told = rank < 8 && rank < blows;
                Due.is("11: rank " + rank + " of " + blows, x.blown(rank), told ? 10 - blows + rank : NO_SUCH);
            }
        }
        for (int rank : new int[] {LOW, -1, 8, 9, HIGH}) Due.is("11: rank " + rank, x.blown(rank), NO_SUCH);
    }

    private static FuseBoards blownAtOnce(int boards) {
        FuseBoards x = new FuseBoards();
        x.board(0, 100, SLOW);
        for (int b = 1; b <= boards; b++) {
            x.board(0, 1, QUICK);
            Houses.lit(x, b, 3);
        }
        Due.is("11: at once", x.pass(1), boards);
        return x;
    }

    private static void blownOfNineInOneTick() {
        FuseBoards nine = blownAtOnce(9);
        for (int rank = 0; rank < 8; rank++) Due.is("11: of nine", nine.blown(rank), 9 - rank);
        Due.is("11: the ninth is not told", nine.blown(8), NO_SUCH);
        Due.is("11: but counted", nine.count(BLEW), 9);
        FuseBoards eight = blownAtOnce(8);
        Due.is("11: the eighth of eight", eight.blown(7), 1);
        Due.is("11: no ninth", eight.blown(8), NO_SUCH);
        FuseBoards seven = blownAtOnce(7);
        Due.is("11: the seventh of seven", seven.blown(6), 1);
        Due.is("11: no eighth", seven.blown(7), NO_SUCH);
    }

    private static void blownHighestOfATickFirst() {
        FuseBoards x = blownAtOnce(3);
        x.board(0, 1, QUICK);
        x.fuse(1, 1, QUICK);
        Due.is("11: 3 of the first tick", x.blown(0), 3);
        x.pass(1);
        x.fuse(2, 1, QUICK);
        x.fuse(1, 1, QUICK);
        x.pass(1);
        int[] due = {2, 1, 3, 2, 1, NO_SUCH};
        for (int rank = 0; rank < due.length; rank++) Due.is("11: rank " + rank, x.blown(rank), due[rank]);
    }

    // ---- promise 12

    private static void whatOfAllIs0To13() {
        for (int what : new int[] {LOW, -1, 14, 15, HIGH}) {
            Due.is("12: of an empty one", new FuseBoards().count(what), BAD_VALUE);
            Due.is("12: of a full one", Houses.full().count(what), BAD_VALUE);
        }
    }

    private static void countsWhenEmpty() {
        FuseBoards x = new FuseBoards();
        for (int what = TIME; what <= AT_BOARD_0; what++) Due.is("12: empty, what " + what, x.count(what), 0);
        Due.is("12: ARC", x.count(SETTINGS), 1);
        Due.is("12: COOL", x.count(SETTINGS + 1), 2);
        Due.is("12: AGE", x.count(SETTINGS + 2), 10);
        Due.is("12: pad", x.count(PAD), 0);
        Due.is("12: states", x.count(UNDOABLE), 0);
    }

    private static void countsWhenFull() {
        FuseBoards x = Houses.inARow(10, 100, SLOW);
        for (int i = 0; i < 14; i++) Houses.lit(x, i % 10, 200);
        x.set(ARC, 9);
        x.set(COOL, 9);
        x.set(AGE, 50);
        Houses.type(x, Houses.textOf(80));
        int[] due = {0, 10, 14, 0, (1 << 14) - 1, 0, 0, 0, 2800, 9, 9, 50, 80, 6};
        for (int what = TIME; what <= UNDOABLE; what++) Due.is("12: full, what " + what, x.count(what), due[what]);
        Due.is("12: the time at its end", Houses.full().count(TIME), 9999);
    }

    private static void countsOfAllTenBoards() {
        FuseBoards x = new FuseBoards();
        x.set(ARC, 9);
        x.board(0, 30, SLOW);
        for (int b = 1; b < 10; b++) {
            x.board(0, 1, QUICK);
            Houses.lit(x, b, 20);
        }
        // 180 * 180 - 30 * 30 is 31500, and 40 * 30 * 30 is 36000: the board 0 goes in the second tick.
        x.pass(2);
        Due.is("12: all burn", x.count(ALL_BURNING), 1023);
        Due.is("12: none is open", x.count(ALL_OPEN), 0);
        Due.is("12: none is dead", x.count(ALL_DEAD), 0);
        Due.is("12: all loads work", x.count(ALL_WORKING), 511);
        x.pass(8);
        Due.is("12: but one are open", x.count(ALL_OPEN), 1022);
        Due.is("12: the last one burns", x.count(ALL_BURNING), 1);
        Due.is("12: dead are those", x.count(ALL_DEAD), 1022);
        Due.is("12: no load works", x.count(ALL_WORKING), 0);
        Due.is("12: nothing flows", x.count(AT_BOARD_0), 0);
        x.pass(1);
        Due.is("12: all open", x.count(ALL_OPEN), 1023);
        Due.is("12: all dead", x.count(ALL_DEAD), 1023);
        Due.is("12: none burns", x.count(ALL_BURNING), 0);
        Due.is("12: ten blew", x.count(BLEW), 10);
    }

    // ---- promise 13

    private static void nextIsAskedForTwoThings() {
        for (int what : new int[] {LOW, -1, 2, 3, HIGH}) {
            Due.is("13: bad, not NONE", new FuseBoards().next(what), BAD_VALUE);
            Due.is("13: bad", Houses.lone(1, QUICK, 200).next(what), BAD_VALUE);
        }
    }

    private static void nextInTheFirstTick() {
        FuseBoards x = Houses.lone(1, SLOW, 3);
        for (int left = 5; left >= 1; left--) {
            Due.is("13: ticks yet", x.next(IN_TICKS), left);
            Due.is("13: the board", x.next(ITS_BOARD), 0);
            Due.is("13: blows in the last of them", x.pass(1), left == 1 ? 1 : 0);
        }
        Due.is("13: not once more", x.next(IN_TICKS), NONE);
    }

    private static void nextWithin200Ticks() {
        // 40 * 73 * 73 is 213160, by 80 * 80 - 73 * 73 = 1071 a tick: 213129 after 199 ticks.
        FuseBoards just = Houses.lone(73, SLOW, 80);
        Due.is("13: in the tick 200", just.next(IN_TICKS), 200);
        Due.is("13: its board", just.next(ITS_BOARD), 0);
        Houses.letPass(just, 199);
        Due.is("13: not before", just.count(BLEW), 0);
        Due.is("13: but then", just.pass(1), 1);
        // 40 * 21 * 21 is 17640, by 23 * 23 - 21 * 21 = 88 a tick: 17600 after 200 ticks.
        FuseBoards late = Houses.lone(21, SLOW, 23);
        Due.is("13: in the tick 201", late.next(IN_TICKS), NONE);
        Due.is("13: nor a board", late.next(ITS_BOARD), NONE);
        late.pass(1);
        Due.is("13: that is 200 a tick later", late.next(IN_TICKS), 200);
        Due.is("13: with its board", late.next(ITS_BOARD), 0);
    }

    private static void nextOfNoneAtAll() {
        FuseBoards[] houses = {new FuseBoards(), Houses.inARow(10, 1, QUICK), Houses.lone(100, OLD, 100)};
        for (FuseBoards x : houses) {
            Due.is("13: none", x.next(IN_TICKS), NONE);
            Due.is("13: no board", x.next(ITS_BOARD), NONE);
        }
    }

    private static void nextTellsTheLowestOfSeveral() {
        FuseBoards x = new FuseBoards();
        x.board(0, 100, SLOW);
        for (int b = 1; b < 10; b++) x.board(0, 1, QUICK);
        Houses.lit(x, 9, 3);
        Due.is("13: 9 alone", x.next(ITS_BOARD), 9);
        Houses.lit(x, 4, 3);
        Due.is("13: 4 and 9", x.next(ITS_BOARD), 4);
        Houses.lit(x, 1, 2);
        Due.is("13: 1 is later", x.next(ITS_BOARD), 4);
        Due.is("13: in one tick", x.next(IN_TICKS), 1);
        Houses.lit(x, 1, 1);
        Due.is("13: 1, 4 and 9", x.next(ITS_BOARD), 1);
    }

    private static void nextAtTheTime9999() {
        FuseBoards x = Houses.inARow(1, 73, SLOW);
        Houses.letPass(x, 9999);
        Houses.lit(x, 0, 80);
        Due.is("13: the bound of the time does not matter", x.next(IN_TICKS), 200);
        Due.is("13: nor for the board", x.next(ITS_BOARD), 0);
        Due.is("13: though no tick passes", x.pass(1), NOT_POSSIBLE);
    }

    // ---- promise 14

    private static void testErrorsInTheirOrder() {
        FuseBoards empty = new FuseBoards();
        FuseBoards ten = Houses.inARow(10, 5, QUICK);
        for (int board : new int[] {LOW, -1, 0, 9, 10, HIGH}) {
            for (int current : new int[] {LOW, -1, 0, 1, 9999, 10000, HIGH}) {
                for (int what : new int[] {LOW, -1, 0, 1, 2, HIGH}) {
                    String call = "14: test " + board + ", " + current + ", " + what;
                    boolean bad = current < 1 || current > 9999 || what < 0 || what > 1;
                    Due.is(call + " of none", empty.test(board, current, what), NO_SUCH);
                    if (board < 0 || board > 9) Due.is(call, Houses.inARow(10, 5, QUICK).test(board, current, what), NO_SUCH);
                    else if (bad) Due.is(call, ten.test(board, current, what), BAD_VALUE);
                }
            }
            empty = new FuseBoards();
        }
    }

    private static void testCurrentIs1To9999() {
        FuseBoards x = Houses.inARow(10, 100, SLOW);
        Due.is("14: 1 ampere", x.test(9, 1, IN_TICKS), NONE);
        Due.is("14: 9999 amperes", x.test(9, 9999, IN_TICKS), 1);
        Due.is("14: the nearest of ten", x.test(9, 9999, ITS_BOARD), 9);
        Due.is("14: 9998 amperes", x.test(0, 9998, IN_TICKS), 1);
        Due.is("14: 2 amperes", Houses.inARow(1, 1, SLOW).test(0, 2, IN_TICKS), 14);
        Due.is("14: 1 ampere at a rating of 1", Houses.inARow(1, 1, SLOW).test(0, 1, IN_TICKS), NONE);
    }

    private static void testWithin200Ticks() {
        FuseBoards just = Houses.inARow(1, 73, SLOW);
        Due.is("14: in the tick 200", just.test(0, 80, IN_TICKS), 200);
        Due.is("14: its board", just.test(0, 80, ITS_BOARD), 0);
        FuseBoards late = Houses.inARow(1, 21, SLOW);
        Due.is("14: in the tick 201", late.test(0, 23, IN_TICKS), NONE);
        Due.is("14: nor a board", late.test(0, 23, ITS_BOARD), NONE);
        // 24 * 24 - 21 * 21 is 135: 17550 after 130 ticks.
        Due.is("14: by one ampere more", late.test(0, 24, IN_TICKS), 131);
    }

    private static void testBeginsWithHeat0AndNoLoads() {
        FuseBoards x = Houses.lone(73, SLOW, 80);
        Houses.letPass(x, 199);
        Due.is("14: nearly blown", x.next(IN_TICKS), 1);
        Due.is("14: but not in a test", x.test(0, 80, IN_TICKS), 200);
        Due.is("14: its load is not added", x.test(0, 73, IN_TICKS), NONE);
        Due.is("14: hot afterwards", x.of(0, HEAT), 213129);
        Due.is("14: on afterwards", x.ofLoad(0, WORKS), 1);
        // A hot one elsewhere is cold in the test, too.
        FuseBoards y = Houses.inARow(1, 100, SLOW);
        y.board(0, 1, SLOW);
        y.board(0, 1, SLOW);
        Houses.lit(y, 1, 2);
        y.pass(13);
        Due.is("14: 1 would go", y.next(ITS_BOARD), 1);
        Due.is("14: 2 goes in a test", y.test(2, 3, ITS_BOARD), 2);
        Due.is("14: in five ticks", y.test(2, 3, IN_TICKS), 5);
    }

    private static void testKeepsAgeAndWhatItHasCrept() {
        // By 21 a tick: 1050 of 1000 in the tick 50, after five steps. If it has crept for 9 ticks, the steps are
        // those of the ticks 1 to 41: 1008 of 1000 in the tick 48.
        FuseBoards x = Houses.lone(10, OLD, 6);
        Due.is("14: a new one", x.test(0, 11, IN_TICKS), 50);
        x.pass(9);
        Due.is("14: crept for 9 ticks", x.test(0, 11, IN_TICKS), 48);
        x.pass(1);
        Due.is("14: a step older, but crept for none", x.test(0, 11, IN_TICKS), 48);
        x.pass(20);
        // 819 of 800 after three more steps.
        Due.is("14: three steps older", x.test(0, 11, IN_TICKS), 39);
        Due.is("14: no older by the test", x.of(0, STEPS), 3);
    }

    private static void testKeepsArcs() {
        FuseBoards x = Houses.inARow(1, 10, QUICK);
        x.board(0, 1, QUICK);
        x.set(ARC, 3);
        Houses.lit(x, 1, 3);
        x.pass(1);
        // Melting at 800; by 20 * 20 - 100 = 300 a tick, in the tick 3: the last one of the arc.
        Due.is("14: the board ahead, through the arc", x.test(1, 20, ITS_BOARD), 0);
        Due.is("14: in its last tick", x.test(1, 20, IN_TICKS), 3);
        // By 19 * 19 - 100 = 261 a tick to 783, and then no more.
        Due.is("14: one ampere less", x.test(1, 19, IN_TICKS), NONE);
        x.pass(1);
        Due.is("14: two ticks of the arc", x.test(1, 20, IN_TICKS), NONE);
        Due.is("14: by 476 a tick", x.test(1, 24, IN_TICKS), 2);
        Due.is("14: burns afterwards", x.of(1, ARC_LEFT), 2);
    }

    private static void testAtADeadBoard() {
        FuseBoards x = Houses.inARow(3, 10, QUICK);
        x.fuse(1, 1, QUICK);
        x.set(ARC, 0);
        Houses.lit(x, 1, 3);
        x.pass(1);
        for (int b : new int[] {1, 2}) {
            Due.is("14: at a dead board", x.test(b, 9999, IN_TICKS), NONE);
            Due.is("14: no board", x.test(b, 9999, ITS_BOARD), NONE);
        }
        Due.is("14: ahead of it", x.test(0, 9999, ITS_BOARD), 0);
    }

    private static void testWithFourteenLoads() {
        FuseBoards x = Houses.inARow(10, 73, SLOW);
        for (int i = 0; i < 14; i++) Houses.lit(x, i % 10, 200);
        Due.is("14: fourteen loads off, one besides", x.test(9, 80, IN_TICKS), 200);
        Due.is("14: the nearest", x.test(9, 80, ITS_BOARD), 9);
        Due.is("14: all on afterwards", x.count(AT_BOARD_0), 2800);
        Due.is("14: fourteen", x.count(LOADS), 14);
        Due.is("14: the first as it was", x.ofLoad(0, 1), 200);
        Due.is("14: the last as it was", x.ofLoad(13, 0), 3);
    }

    private static void testAtTheTime9999() {
        FuseBoards x = Houses.inARow(1, 73, SLOW);
        Houses.letPass(x, 9999);
        Due.is("14: the bound of the time does not matter", x.test(0, 80, IN_TICKS), 200);
    }

    // ---- promise 15

    private static void timesAre2To20() {
        for (int times : new int[] {LOW, -1, 0, 1, 21, 22, HIGH}) {
            Due.is("15: times " + times + ", no boards", new FuseBoards().unfair(times), BAD_VALUE);
            Due.is("15: times " + times, Houses.inARow(10, 5, QUICK).unfair(times), BAD_VALUE);
        }
        for (int times = 2; times <= 20; times++) Due.is("15: times " + times, new FuseBoards().unfair(times), 0);
    }

    private static void unfairAtThe20() {
        // 20 times 12 is 240: 47600 a tick at the board 0, 428400 in the nine ticks of the arc; 19 times 12 is too little.
        FuseBoards x = Houses.inARow(1, 100, SLOW);
        x.board(0, 12, QUICK);
        x.set(ARC, 9);
        Houses.lit(x, 1, 100);
        x.pass(1);
        Due.is("15: burns", x.of(1, ARC_LEFT), 9);
        Due.is("15: times 20", x.unfair(20), 2);
        Due.is("15: times 19", x.unfair(19), 0);
        x.pass(1);
        Due.is("15: times 20 for eight ticks", x.unfair(20), 0);
    }

    private static void unfairAtThe2() {
        // At 1 with times 2: 44 amperes, 1452 a tick to 19360 in the tick 14; at 0 44 * 44 - 40 * 40 = 336 to 3200 of the rest.
        FuseBoards x = Houses.inARow(1, 20, QUICK);
        x.board(0, 16, SLOW);
        Due.is("15: times 2, the board 0 goes in 6 ticks", x.unfair(2), 2);
        // With times 3: 48 amperes, 2048 a tick to 10240 in the tick 5, at 0 1904 to 3200 in the tick 2.
        Due.is("15: times 3, too", x.unfair(3), 2);
        // With times 7: 112 amperes, 12288 to 10240 at once: the nearer one goes.
        Due.is("15: times 7, both at once", x.unfair(7), 0);
        Due.is("15: times 6, in two ticks and in one", x.unfair(6), 2);
    }

    private static void unfairBeginsWithHeat0AndNoLoads() {
        FuseBoards x = Houses.lone(20, QUICK, 21);
        x.board(0, 4, SLOW);
        x.pass(78);
        Due.is("15: the board 0 is hot", x.next(IN_TICKS), 1);
        Due.is("15: but fair all the same", x.unfair(2), 0);
        Due.is("15: still hot", x.of(0, HEAT), 78 * 41);
    }

    private static void unfairAtTheTime9999() {
        FuseBoards x = Houses.inARow(1, 20, QUICK);
        x.board(0, 16, SLOW);
        Houses.letPass(x, 9999);
        Due.is("15: the bound of the time does not matter", x.unfair(2), 2);
    }

    private static void unfairAtADeadBoard() {
        FuseBoards x = Houses.inARow(1, 20, QUICK);
        x.board(0, 1, QUICK);
        x.board(1, 16, SLOW);
        Due.is("15: of what feeds it one goes", x.unfair(2), 4);
        Houses.lit(x, 1, 3);
        x.pass(2);
        Due.is("15: 1 is open", x.count(ALL_DEAD), 6);
        Due.is("15: at a dead board none goes", x.unfair(2), 0);
    }

    private static void unfairOfNoBoards() {
        Due.is("15: none", new FuseBoards().unfair(2), 0);
        Due.is("15: the board 0 alone is fair", Houses.inARow(1, 1, SLOW).unfair(2), 0);
    }

    private static void unfairOfTenBoards() {
        // Each is fed through a quick one, rated 2: all but it are unfair with times 2, if they are slow and rated 10.
        FuseBoards x = Houses.inARow(1, 2, QUICK);
        for (int b = 1; b < 10; b++) x.board(0, 10, SLOW);
        Due.is("15: nine of ten", x.unfair(2), 1022);
        Due.is("15: nothing is different", x.count(BLEW), 0);
    }

    // ---- promise 16

    private static void ifOpenOfNoSuchBoard() {
        for (int board : NO_BOARDS) Due.is("16: of ten", Houses.full().ifOpen(board), NO_SUCH);
        for (int board : new int[] {LOW, -1, 5, 10, HIGH}) Due.is("16: of five", Houses.busy().ifOpen(board), NO_SUCH);
        for (int board : new int[] {-1, 0, 1}) Due.is("16: of none", new FuseBoards().ifOpen(board), NO_SUCH);
    }

    private static void ifOpenOfNoLoads() {
        FuseBoards x = Houses.inARow(10, 5, QUICK);
        for (int b : new int[] {0, 9}) Due.is("16: no loads", x.ifOpen(b), 0);
        for (int i = 0; i < 14; i++) x.load(i % 10, 5);
        for (int b : new int[] {0, 9}) Due.is("16: none is on", x.ifOpen(b), 0);
    }

    private static void ifOpenOfFourteenLoads() {
        FuseBoards x = Houses.inARow(10, 100, SLOW);
        for (int i = 0; i < 14; i++) Houses.lit(x, i % 10, 1);
        Due.is("16: all", x.ifOpen(0), (1 << 14) - 1);
        Due.is("16: without those at 0", x.ifOpen(1), (1 << 14) - 1 - 1 - (1 << 10));
        Due.is("16: those at 9", x.ifOpen(9), 1 << 9);
        Due.is("16: nothing opens", x.count(ALL_OPEN), 0);
    }

    private static void ifOpenWithoutThoseThatWorkNoMore() {
        FuseBoards x = Houses.inARow(3, 100, SLOW);
        x.fuse(1, 1, QUICK);
        x.set(ARC, 2);
        for (int b = 0; b < 3; b++) Houses.lit(x, b, 3);
        x.pass(1);
        int[] burns = {7, 6, 4}, open = {1, 0, 0};
        for (int b = 0; b < 3; b++) Due.is("16: in the arc, " + b, x.ifOpen(b), burns[b]);
        x.pass(1);
        for (int b = 0; b < 3; b++) Due.is("16: in its last tick, " + b, x.ifOpen(b), burns[b]);
        x.pass(1);
        for (int b = 0; b < 3; b++) Due.is("16: open at 1, " + b, x.ifOpen(b), open[b]);
    }

    // ---- what only asks

    private static void questionsChangeNothing() {
        int[] asked = {LOW, -1, 0, 1, 2, 3, 4, 5, 7, 8, 10, 11, 12, 13, 14, 20, 21, 9999, 10000, HIGH};
        for (Refused.House made : new Refused.House[] {FuseBoards::new, Houses::busy, Houses::full}) {
            Refused house = new Refused("questions", made);
            for (int i : asked) {
                house.asked("of " + i, x -> x.of(4, i) + x.of(i, CURRENT));
                house.asked("ofLoad " + i, x -> x.ofLoad(4, i) + x.ofLoad(i, WORKS));
                house.asked("fed " + i, x -> x.fed(i));
                house.asked("blown " + i, x -> x.blown(i));
                house.asked("count " + i, x -> x.count(i));
                house.asked("next " + i, x -> x.next(i));
                house.asked("test " + i, x -> x.test(i, 9999, ITS_BOARD) + x.test(4, i, IN_TICKS) + x.test(4, 50, i));
                house.asked("unfair " + i, x -> x.unfair(i));
                house.asked("ifOpen " + i, x -> x.ifOpen(i));
            }
            house.asked("fault", FuseBoards::fault);
        }
    }
}
