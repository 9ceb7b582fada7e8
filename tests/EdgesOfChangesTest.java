/** What the document names as an edge in 'Settings', in 'Boards, loads' and in the promises 1 to 7, each in a test of its own. */
public final class EdgesOfChangesTest implements Codes {
    private static final int[] LEAST = {0, 1, 1}, MOST = {9, 9, 50}, FIRST = {1, 2, 10};
    private static final int[] OUTSIDE_BOARDS = {LOW, -1};
    private static final int[] BAD_RATINGS = {LOW, -1, 0, 101, HIGH};
    private static final int[] BAD_KINDS = {LOW, -1, 3, HIGH};
    private static final int[] BAD_CURRENTS = {LOW, -1, 0, 201, HIGH};
    private static final int[] BAD_TICKS = {LOW, -1, 0, 100, HIGH};

    public static void main(String[] args) {
        newObjectHasNothing();
        objectsStandApart();
        lastOf512CallsIsAnswered();
        settingsBeginWithTheirFirstValues();
        arcIs0To9();
        coolIs1To9();
        ageIs1To50();
        noOtherSettings();
        previousValueIsReturnedAlsoForTheSame();
        burningArcsKeepTheirTicks();
        tenBoardsAndNoMore();
        firstBoardComesFromWhatever();
        otherBoardsComeFromLowerOnes();
        ratingIs1To100();
        kindIs0To2();
        errorsOfBoardInTheirOrder();
        newBoardAtADeadOneIsDead();
        fourteenLoadsAndNoMore();
        noLoadsWithoutBoards();
        currentIs1To200();
        loadsAreOffAtFirst();
        errorsOfLoadInTheirOrder();
        turnGoesOnAndOff();
        turnOfNoSuchLoad();
        fuseOfEachRatingAndKind();
        fuseTakesTheRatingsRange();
        fuseThatBurnsStays();
        fuseThatIsOpenOrWholeGoes();
        newFuseIsColdAndYoung(0);
        newFuseIsColdAndYoung(9);
        newFuseLeavesDeadWhatIsDeadByAnother();
        errorsOfFuseInTheirOrder();
        ticksAre1To99();
        timeEndsWith9999();
        errorsOfPassInTheirOrder();
        passCountsAllThatBlow();
        Due.end();
    }

    // ---- promise 1

    private static void newObjectHasNothing() {
        FuseBoards x = new FuseBoards();
        int[] counts = {0, 0, 0, 0, 0, 0, 0, 0, 0, 1, 2, 10, 0, 0};
        for (int what = TIME; what <= UNDOABLE; what++) Due.is("1: count " + what, x.count(what), counts[what]);
        for (int i : new int[] {LOW, -1, 0, 1, HIGH}) {
            Due.is("1: of", x.of(i, 0), NO_SUCH);
            Due.is("1: ofLoad", x.ofLoad(i, 0), NO_SUCH);
            Due.is("1: fed", x.fed(i), NO_SUCH);
            Due.is("1: blown", x.blown(i), NO_SUCH);
            Due.is("1: ifOpen", x.ifOpen(i), NO_SUCH);
            Due.is("1: test", x.test(i, 1, 0), NO_SUCH);
        }
        Due.is("1: next", x.next(0), NONE);
        Due.is("1: unfair", x.unfair(2), 0);
        Due.is("1: fault", x.fault(), 0);
        Due.is("1: wipe", x.wipe(), 0);
    }

    private static void objectsStandApart() {
        FuseBoards x = Houses.busy();
        String before = Look.at(x);
        Look.onwards(Houses.full());
        newObjectHasNothing();
        Look.back(Houses.busy());
        Due.same("1: other objects change nothing", Look.at(x), before);
    }

    private static void lastOf512CallsIsAnswered() {
        FuseBoards x = Houses.lone(10, QUICK, 5);
        for (int i = 4; i <= 511; i++) Due.is("1: call " + i, x.turn(0), i % 2 == 0 ? 0 : 1);
        Due.is("1: call 512", x.count(AT_BOARD_0), 5);
    }

    // ---- promise 2

    private static void settingsBeginWithTheirFirstValues() {
        FuseBoards x = new FuseBoards();
        Due.is("2: ARC", x.set(ARC, 5), 1);
        Due.is("2: COOL", x.set(COOL, 5), 2);
        Due.is("2: AGE", x.set(AGE, 5), 10);
    }

    private static void takesItsRange(int setting) {
        Due.is("2: the least", new FuseBoards().set(setting, LEAST[setting]), FIRST[setting]);
        Due.is("2: the most", new FuseBoards().set(setting, MOST[setting]), FIRST[setting]);
        FuseBoards x = new FuseBoards();
        for (int value = LEAST[setting]; value <= MOST[setting]; value++) {
            x.set(setting, value);
            Due.is("2: taken", x.count(SETTINGS + setting), value);
        }
        Refused house = new Refused("2: setting " + setting, Houses::busy);
        for (int value : new int[] {LOW, -1, LEAST[setting] - 1, MOST[setting] + 1, HIGH}) {
            house.is("value " + value, BAD_VALUE, y -> y.set(setting, value));
        }
    }

    private static void arcIs0To9() {
        takesItsRange(ARC);
        FuseBoards none = Houses.lone(1, QUICK, 200);
        none.set(ARC, 0);
        none.pass(1);
        Due.is("2: ARC 0, open at once", none.of(0, STATE), OPEN);
        FuseBoards most = Houses.lone(1, QUICK, 200);
        most.set(ARC, 9);
        most.pass(9);
        Due.is("2: ARC 9, burns for the eighth tick", most.of(0, ARC_LEFT), 1);
        most.pass(1);
        Due.is("2: ARC 9, open by the ninth", most.of(0, STATE), OPEN);
    }

    private static void coolIs1To9() {
        takesItsRange(COOL);
        int[] left = {210 - 100, 210 - 50, 210 - 33, 210 - 25, 210 - 20, 210 - 16, 210 - 14, 210 - 12, 210 - 11};
        for (int cool = 1; cool <= 9; cool++) {
            FuseBoards x = Houses.lone(10, SLOW, 11);
            x.pass(10);
            x.turn(0);
            x.set(COOL, cool);
            x.pass(1);
            Due.is("2: COOL " + cool, x.of(0, HEAT), left[cool - 1]);
        }
    }

    private static void ageIs1To50() {
        takesItsRange(AGE);
        for (int age : new int[] {1, 2, 49, 50}) {
            FuseBoards x = Houses.lone(100, OLD, 100);
            x.set(AGE, age);
            if (age > 1) x.pass(age - 1);
            Due.is("2: AGE " + age + ", not yet", x.of(0, STEPS), 0);
            x.pass(1);
            Due.is("2: AGE " + age + ", reached", x.of(0, STEPS), 1);
        }
    }

    private static void noOtherSettings() {
        Refused house = new Refused("2: no such setting", Houses::busy);
        for (int setting : new int[] {LOW, -1, 3, 4, HIGH}) {
            for (int value : new int[] {0, 1, 5, 50}) {
                house.is(setting + ", " + value, BAD_VALUE, x -> x.set(setting, value));
            }
        }
    }

    private static void previousValueIsReturnedAlsoForTheSame() {
        FuseBoards x = new FuseBoards();
        Due.is("2: from 1 to 0", x.set(ARC, 0), 1);
        Due.is("2: 0 again", x.set(ARC, 0), 0);
        Due.is("2: both recorded", x.count(UNDOABLE), 2);
        Due.is("2: an error is no value that was", x.set(ARC, 10), BAD_VALUE);
        Due.is("2: from 0 to 9", x.set(ARC, 9), 0);
        Due.is("2: from 9", x.set(ARC, 1), 9);
    }

    private static void burningArcsKeepTheirTicks() {
        FuseBoards x = Houses.lone(1, QUICK, 200);
        x.set(ARC, 3);
        x.pass(1);
        x.set(ARC, 9);
        Due.is("2: no longer", x.of(0, ARC_LEFT), 3);
        x.set(ARC, 0);
        Due.is("2: no shorter", x.of(0, STATE), BURNS);
        x.pass(2);
        Due.is("2: nor later", x.of(0, ARC_LEFT), 1);
        x.pass(1);
        Due.is("2: open by then", x.of(0, STATE), OPEN);
    }

    // ---- promise 3

    private static void tenBoardsAndNoMore() {
        FuseBoards x = new FuseBoards();
        for (int b = 0; b < 10; b++) Due.is("3: board " + b, x.board(0, 5, SLOW), b);
        Due.is("3: ten", x.count(BOARDS), 10);
        for (int from : new int[] {0, 9}) {
            Refused.is("3: ten boards", Houses::full, "one more from " + from, TOO_MANY, y -> y.board(from, 5, SLOW));
        }
        Due.is("3: still one too many", x.board(0, 5, SLOW), TOO_MANY);
        x.undo();
        Due.is("3: room again", x.board(0, 6, SLOW), 9);
    }

    private static void firstBoardComesFromWhatever() {
        for (int from : new int[] {LOW, -6, -1, 0, 1, 9, 10, HIGH}) {
            FuseBoards x = new FuseBoards();
            Due.is("3: the first one from " + from, x.board(from, 5, OLD), 0);
            Due.is("3: from outside", x.of(0, FROM), NONE);
            Due.is("3: none between", x.of(0, AHEAD), 0);
            Due.is("3: feeds itself alone", x.fed(0), 1);
            Due.is("3: is not dead", x.count(ALL_DEAD), 0);
            Due.is("3: the next one from 0", x.board(0, 5, OLD), 1);
            Due.is("3: both through 0", x.fed(0), 3);
        }
    }

    private static void otherBoardsComeFromLowerOnes() {
        for (int b = 1; b < 10; b++) {
            int own = b;
            Refused house = new Refused("3: from a board that is not", () -> Houses.inARow(own, 5, SLOW));
            for (int from : new int[] {LOW, -6, -1, b, b + 1, HIGH}) {
                house.is(b + " from " + from, NO_SUCH, x -> x.board(from, 5, SLOW));
            }
            for (int from = 0; from < b; from++) {
                FuseBoards x = Houses.inARow(b, 5, SLOW);
                Due.is("3: from " + from, x.board(from, 5, SLOW), b);
                Due.is("3: is fed from it", x.of(b, FROM), from);
            }
        }
    }

    private static void ratingIs1To100() {
        for (int rating : new int[] {1, 2, 99, 100}) {
            FuseBoards x = new FuseBoards();
            Due.is("3: rating " + rating, x.board(0, rating, SLOW), 0);
            Due.is("3: told", x.of(0, RATING), rating);
            Due.is("3: the second one's", x.board(0, rating, SLOW), 1);
            Due.is("3: told too", x.of(1, RATING), rating);
        }
        Refused empty = new Refused("3: no boards", FuseBoards::new);
        Refused busy = new Refused("3: some boards", Houses::busy);
        for (int rating : BAD_RATINGS) {
            empty.is("rating " + rating, BAD_VALUE, x -> x.board(0, rating, SLOW));
            busy.is("rating " + rating, BAD_VALUE, x -> x.board(0, rating, SLOW));
        }
    }

    private static void kindIs0To2() {
        for (int kind = QUICK; kind <= OLD; kind++) {
            FuseBoards x = new FuseBoards();
            Due.is("3: kind " + kind, x.board(0, 5, kind), 0);
            Due.is("3: told", x.of(0, KIND), kind);
        }
        Refused empty = new Refused("3: no boards", FuseBoards::new);
        Refused busy = new Refused("3: some boards", Houses::busy);
        for (int kind : BAD_KINDS) {
            empty.is("kind " + kind, BAD_VALUE, x -> x.board(0, 5, kind));
            busy.is("kind " + kind, BAD_VALUE, x -> x.board(0, 5, kind));
        }
    }

    private static void errorsOfBoardInTheirOrder() {
        Refused empty = new Refused("3: no boards", FuseBoards::new);
        empty.is("no board, so no such one is missed", BAD_VALUE, x -> x.board(-1, 0, 3));
        Refused full = new Refused("3: ten boards", Houses::full);
        for (int from : new int[] {-1, 0, 9, 10}) {
            for (int rating : new int[] {0, 1, 100, 101}) {
                for (int kind : new int[] {-1, 0, 2, 3}) {
                    boolean noSuch = from < 0 || from > 9;
                    boolean bad = rating < 1 || rating > 100 || kind < 0 || kind > 2;
                    full.is("from " + from + ", rating " + rating + ", kind " + kind,
                        noSuch ? NO_SUCH : bad ? BAD_VALUE : TOO_MANY, x -> x.board(from, rating, kind));
                }
            }
        }
        Refused busy = new Refused("3: five boards", Houses::busy);
        busy.is("no such before bad", NO_SUCH, x -> x.board(5, 101, 3));
    }

    private static void newBoardAtADeadOneIsDead() {
        FuseBoards x = Houses.lone(1, QUICK, 200);
        x.set(ARC, 0);
        x.pass(1);
        Due.is("3: at a dead board", x.board(0, 5, SLOW), 1);
        Due.is("3: dead too", x.of(1, DEAD), 1);
        Due.is("3: though its fuse is whole", x.of(1, STATE), WHOLE);
    }

    // ---- promise 4

    private static void fourteenLoadsAndNoMore() {
        FuseBoards x = Houses.inARow(10, 5, SLOW);
        for (int i = 0; i < 14; i++) Due.is("4: load " + i, x.load(i % 10, i + 1), i);
        Due.is("4: fourteen", x.count(LOADS), 14);
        for (int i = 0; i < 14; i++) {
            Due.is("4: its board", x.ofLoad(i, 0), i % 10);
            Due.is("4: its current", x.ofLoad(i, 1), i + 1);
        }
        for (int board : new int[] {0, 9}) {
            Refused.is("4: fourteen loads", Houses::full, "one more at " + board, TOO_MANY, y -> y.load(board, 5));
        }
        x.undo();
        Due.is("4: room again", x.load(0, 5), 13);
    }

    private static void noLoadsWithoutBoards() {
        Refused empty = new Refused("4: no boards", FuseBoards::new);
        for (int board : new int[] {LOW, -1, 0, 1, HIGH}) empty.is("at " + board, NO_SUCH, x -> x.load(board, 5));
        Refused busy = new Refused("4: five boards", Houses::busy);
        for (int board : new int[] {LOW, -1, 5, 6, HIGH}) busy.is("at " + board, NO_SUCH, x -> x.load(board, 5));
        Due.is("4: at the last one", Houses.busy().load(4, 5), 5);
    }

    private static void currentIs1To200() {
        for (int current : new int[] {1, 2, 199, 200}) {
            FuseBoards x = Houses.inARow(1, 100, SLOW);
            Due.is("4: current " + current, x.load(0, current), 0);
            Due.is("4: told", x.ofLoad(0, 1), current);
            x.turn(0);
            Due.is("4: flows", x.of(0, CURRENT), current);
        }
        Refused busy = new Refused("4: current", Houses::busy);
        for (int current : BAD_CURRENTS) busy.is("of " + current, BAD_VALUE, x -> x.load(0, current));
    }

    private static void loadsAreOffAtFirst() {
        FuseBoards x = Houses.inARow(1, 100, SLOW);
        for (int i = 0; i < 14; i++) {
            int load = x.load(0, 200);
            Due.is("4: off", x.ofLoad(load, IS_ON), 0);
            Due.is("4: doesn't work", x.ofLoad(load, WORKS), 0);
            Due.is("4: no current", x.count(AT_BOARD_0), 0);
        }
        x.undo();
        x.load(0, 3);
        x.turn(13);
        x.undo();
        x.undo();
        x.load(0, 3);
        Due.is("4: off anew at a number that was on", x.ofLoad(13, IS_ON), 0);
    }

    private static void errorsOfLoadInTheirOrder() {
        Refused empty = new Refused("4: no boards", FuseBoards::new);
        empty.is("no such before bad", NO_SUCH, x -> x.load(0, 0));
        Refused full = new Refused("4: fourteen loads", Houses::full);
        for (int board : new int[] {-1, 0, 9, 10}) {
            for (int current : new int[] {0, 1, 200, 201}) {
                boolean noSuch = board < 0 || board > 9;
                boolean bad = current < 1 || current > 200;
                full.is("at " + board + ", current " + current, noSuch ? NO_SUCH : bad ? BAD_VALUE : TOO_MANY,
                    x -> x.load(board, current));
            }
        }
    }

    // ---- promise 5

    private static void turnGoesOnAndOff() {
        FuseBoards x = Houses.inARow(1, 100, SLOW);
        for (int i = 0; i < 14; i++) x.load(0, 1 << Math.min(7, i));
        for (int i : new int[] {0, 13}) {
            Due.is("5: on", x.turn(i), 1);
            Due.is("5: is on", x.ofLoad(i, IS_ON), 1);
            Due.is("5: no other one", x.count(ALL_WORKING), 1 << i);
            Due.is("5: off", x.turn(i), 0);
            Due.is("5: is off", x.ofLoad(i, IS_ON), 0);
            Due.is("5: none is on", x.count(ALL_WORKING), 0);
        }
        for (int i = 0; i < 14; i++) x.turn(i);
        Due.is("5: all fourteen", x.count(ALL_WORKING), (1 << 14) - 1);
        FuseBoards dead = Houses.lone(1, QUICK, 200);
        dead.set(ARC, 0);
        dead.pass(1);
        Due.is("5: off at a dead board", dead.turn(0), 0);
        Due.is("5: and on", dead.turn(0), 1);
    }

    private static void turnOfNoSuchLoad() {
        Refused empty = new Refused("5: no loads", FuseBoards::new);
        for (int load : new int[] {LOW, -1, 0, 1, HIGH}) empty.is("load " + load, NO_SUCH, x -> x.turn(load));
        Refused busy = new Refused("5: five loads", Houses::busy);
        for (int load : new int[] {LOW, -1, 5, 6, 32, HIGH}) busy.is("load " + load, NO_SUCH, x -> x.turn(load));
        Refused full = new Refused("5: fourteen loads", Houses::full);
        for (int load : new int[] {LOW, -1, 14, 15, 32, HIGH}) full.is("load " + load, NO_SUCH, x -> x.turn(load));
        Due.is("5: the last of five", Houses.busy().turn(4), 1);
        Due.is("5: the last of fourteen", Houses.full().turn(13), 1);
    }

    // ---- promise 6

    private static void fuseOfEachRatingAndKind() {
        for (int rating : new int[] {1, 100}) {
            for (int kind = QUICK; kind <= OLD; kind++) {
                FuseBoards x = Houses.inARow(10, 37, SLOW);
                Due.is("6: the rating that was", x.fuse(9, rating, kind), 37);
                Due.is("6: the rating", x.of(9, RATING), rating);
                Due.is("6: the kind", x.of(9, KIND), kind);
                Due.is("6: not at another board", x.of(8, RATING), 37);
                Due.is("6: the rating that was, then", x.fuse(9, 50, kind), rating);
            }
        }
    }

    private static void fuseTakesTheRatingsRange() {
        Refused busy = new Refused("6: a whole fuse", Houses::busy);
        for (int rating : BAD_RATINGS) busy.is("rating " + rating, BAD_VALUE, x -> x.fuse(1, rating, SLOW));
        for (int kind : BAD_KINDS) busy.is("kind " + kind, BAD_VALUE, x -> x.fuse(1, 5, kind));
    }

    private static FuseBoards burningFor(int ticks) {
        FuseBoards x = Houses.lone(1, QUICK, 200);
        x.set(ARC, 9);
        x.pass(1);
        if (ticks < 9) x.pass(9 - ticks);
        Due.is("6: burns for so long yet", x.of(0, ARC_LEFT), ticks);
        return x;
    }

    private static void fuseThatBurnsStays() {
        for (int ticks : new int[] {9, 2, 1}) {
            Refused.is("6: burns", () -> burningFor(ticks), "for " + ticks, NOT_POSSIBLE, x -> x.fuse(0, 1, QUICK));
        }
    }

    private static void fuseThatIsOpenOrWholeGoes() {
        FuseBoards open = burningFor(1);
        open.pass(1);
        Due.is("6: open", open.of(0, STATE), OPEN);
        Due.is("6: in place of an open one", open.fuse(0, 100, SLOW), 1);
        Due.is("6: whole", open.of(0, STATE), WHOLE);
        Due.is("6: no arc", open.of(0, ARC_LEFT), 0);
        Due.is("6: not dead", open.count(ALL_DEAD), 0);
        Due.is("6: its load works", open.count(ALL_WORKING), 1);
        Due.is("6: what blew is told", open.of(0, BLEW_HERE), 1);
        Due.is("6: as the latest too", open.blown(0), 0);
        Due.is("6: and counted", open.count(BLEW), 1);
        Due.is("6: in place of a whole one", open.fuse(0, 100, SLOW), 100);
    }

    private static void newFuseIsColdAndYoung(int board) {
        FuseBoards x = Houses.last(board, 10, OLD, 11);
        x.set(AGE, 2);
        x.pass(5);
        Due.is("6: hot", x.of(board, HEAT), 105);
        Due.is("6: old", x.of(board, STEPS), 2);
        Due.is("6: the same rating and kind", x.fuse(board, 10, OLD), 10);
        Due.is("6: cold", x.of(board, HEAT), 0);
        Due.is("6: young", x.of(board, STEPS), 0);
        Due.is("6: its melting heat", x.of(board, MELTING), 2000);
        x.pass(1);
        Due.is("6: what the old one crept is forgotten", x.of(board, STEPS), 0);
        x.pass(1);
        Due.is("6: creeps from 0", x.of(board, STEPS), 1);
    }

    private static void newFuseLeavesDeadWhatIsDeadByAnother() {
        FuseBoards x = Houses.inARow(2, 1, QUICK);
        x.set(ARC, 0);
        Houses.lit(x, 1, 200);
        x.pass(2);
        Due.is("6: both open", x.count(ALL_OPEN), 3);
        x.fuse(1, 100, SLOW);
        Due.is("6: one is open", x.count(ALL_OPEN), 1);
        Due.is("6: both are dead", x.count(ALL_DEAD), 3);
        x.fuse(0, 100, SLOW);
        Due.is("6: none is dead", x.count(ALL_DEAD), 0);
    }

    private static void errorsOfFuseInTheirOrder() {
        Refused empty = new Refused("6: no boards", FuseBoards::new);
        for (int board : new int[] {LOW, -1, 0, 1, HIGH}) empty.is("board " + board, NO_SUCH, x -> x.fuse(board, 5, 0));
        Refused full = new Refused("6: ten boards", Houses::full);
        for (int board : new int[] {LOW, -1, 10, 11, HIGH}) full.is("board " + board, NO_SUCH, x -> x.fuse(board, 5, 0));
        Refused busy = new Refused("6: five boards, 2 burns", Houses::busy);
        for (int board : new int[] {-1, 2, 5}) {
            for (int rating : new int[] {0, 1, 100, 101}) {
                for (int kind : new int[] {-1, 0, 2, 3}) {
                    boolean bad = rating < 1 || rating > 100 || kind < 0 || kind > 2;
                    busy.is("board " + board + ", rating " + rating + ", kind " + kind,
                        board != 2 ? NO_SUCH : bad ? BAD_VALUE : NOT_POSSIBLE, x -> x.fuse(board, rating, kind));
                }
            }
        }
    }

    // ---- promise 7

    private static void ticksAre1To99() {
        for (int ticks : new int[] {1, 2, 98, 99}) {
            FuseBoards x = new FuseBoards();
            Due.is("7: ticks " + ticks, x.pass(ticks), 0);
            Due.is("7: the time", x.count(TIME), ticks);
        }
        Refused busy = new Refused("7: ticks", Houses::busy);
        for (int ticks : BAD_TICKS) busy.is("" + ticks, BAD_VALUE, x -> x.pass(ticks));
    }

    private static FuseBoards atTime(int time) {
        FuseBoards x = Houses.lone(10, QUICK, 5);
        Houses.letPass(x, time);
        return x;
    }

    private static void timeEndsWith9999() {
        for (int[] timeAndTicks : new int[][] {{9900, 99}, {9901, 98}, {9998, 1}}) {
            FuseBoards x = atTime(timeAndTicks[0]);
            Due.is("7: up to 9999", x.pass(timeAndTicks[1]), 0);
            Due.is("7: the time", x.count(TIME), 9999);
        }
        for (int[] timeAndTicks : new int[][] {{9901, 99}, {9998, 2}, {9998, 99}, {9999, 1}, {9999, 99}}) {
            int ticks = timeAndTicks[1];
            Refused.is("7: above 9999", () -> atTime(timeAndTicks[0]), ticks + " ticks", NOT_POSSIBLE, x -> x.pass(ticks));
        }
    }

    private static void errorsOfPassInTheirOrder() {
        Refused full = new Refused("7: the time 9999", Houses::full);
        for (int ticks : BAD_TICKS) full.is(ticks + " ticks", BAD_VALUE, x -> x.pass(ticks));
        full.is("1 tick", NOT_POSSIBLE, x -> x.pass(1));
    }

    private static void passCountsAllThatBlow() {
        FuseBoards x = Houses.inARow(10, 1, QUICK);
        Due.is("7: none", x.pass(99), 0);
        x.set(ARC, 0);
        Houses.lit(x, 9, 200);
        Due.is("7: one in each of four ticks", x.pass(4), 4);
        Due.is("7: and of the other six", x.pass(99), 6);
        FuseBoards y = new FuseBoards();
        y.board(0, 100, SLOW);
        for (int b = 1; b < 10; b++) {
            y.board(0, 1, QUICK);
            Houses.lit(y, b, 3);
        }
        Due.is("7: nine in one tick", y.pass(1), 9);
    }
}
