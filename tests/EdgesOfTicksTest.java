/** What the document names as an edge in 'Boards, loads' (dead, currents), in 'Heat' and in 'A tick', each in a test of its own. */
public final class EdgesOfTicksTest implements Codes {
    public static void main(String[] args) {
        boardIsDeadByEachFuseAhead();
        boardIsNotDeadByAnArc();
        currentsAddUpThroughAllBoards();
        currentOf14LoadsAt200();
        currentLeavesDeadBoardsOut();
        currentOfOneLoadThroughTenBoards();
        heatIs0AtFirst();
        meltingHeatByKindAndRating();
        meltingHeatIs1AtLeast();
        currentsAreThoseAtTheBeginning();
        boardThatDiesInTheTickIsHeatedYet();
        arcOf1BurnsForOneTick();
        arcOf0IsOpenAtOnce();
        arcOf9BurnsForNineTicks();
        currentOneAboveTheRatingHeats();
        currentEqualToTheRatingKeepsTheHeat();
        currentOneBelowTheRatingCools();
        coolingIsRoundedDown();
        coolingIsRoundedDownToNothing();
        heatIs0AtLeast();
        heatIs1000000AtMost();
        heatStaysAt1000000AndCoolsFromIt();
        fuseThatBurnsOrIsOpenKeepsItsHeat();
        tenBoardsKeepWhatIsTheirsApart();
        deadBoardCoolsAsWithoutACurrent();
        justHalfTheRatingDoesNotCreep();
        oneAboveHalfTheRatingCreeps();
        creepingGoesOnAboveTheRating();
        otherKindsDoNotCreep();
        onlyWholeFusesCreep();
        ageTicksReached(0);
        ageTicksReached(9);
        ageLoweredBelowWhatItHasCrept();
        ageLoweredToWhatItHasCrept();
        ageRaisedJustInTime();
        pausesDoNotUndoCreeping();
        heatOfJustTheMeltingHeatBlows();
        heatOneBelowTheMeltingHeatDoesNot();
        stepOfTheSameTickCounts();
        stepAloneCanBlowAFuse();
        heat0NeverBlows();
        nearerOneGoesFirst();
        nearerOneGoesFirstOverAColdOneBetween();
        eachBranchHasItsOwnNearest();
        nearerOneThatBurnsHoldsNothingBack();
        hotFuseWithoutACurrentBlows();
        hotFuseAtADeadBoardBlows();
        tenBoardsInARowGoOneByOne();
        timeIsOneMore();
        Due.end();
    }

    /** Ten boards in a row, of which one alone has a weak fuse, blown by its own load. */
    private static FuseBoards blownInTheMiddle(int board, int arc) {
        FuseBoards x = new FuseBoards();
        x.set(ARC, arc);
        for (int b = 0; b < 10; b++) x.board(b - 1, b == board ? 1 : 100, b == board ? QUICK : SLOW);
        Houses.lit(x, board, 100);
        Due.is("one blows", x.pass(1), 1);
        return x;
    }

    // ---- dead boards

    private static void boardIsDeadByEachFuseAhead() {
        for (int open = 0; open < 10; open++) {
            FuseBoards x = blownInTheMiddle(open, 0);
            Due.is("dead: open", x.count(ALL_OPEN), 1 << open);
            Due.is("dead: from " + open + " on", x.count(ALL_DEAD), 1023 & -1 << open);
            for (int b = 0; b < 10; b++) Due.is("dead: board " + b, x.of(b, DEAD), b >= open ? 1 : 0);
            Due.is("dead: its load", x.ofLoad(0, WORKS), 0);
        }
    }

    private static void boardIsNotDeadByAnArc() {
        FuseBoards x = blownInTheMiddle(4, 2);
        Due.is("dead: burns", x.count(ALL_BURNING), 16);
        Due.is("dead: none by an arc", x.count(ALL_DEAD), 0);
        Due.is("dead: a current through it", x.of(4, CURRENT), 100);
        Due.is("dead: its load works", x.ofLoad(0, WORKS), 1);
        x.pass(1);
        Due.is("dead: nor in its last tick", x.count(ALL_DEAD), 0);
        x.pass(1);
        Due.is("dead: by the open fuse", x.count(ALL_DEAD), 1023 & -1 << 4);
    }

    // ---- currents

    private static void currentsAddUpThroughAllBoards() {
        FuseBoards x = Houses.inARow(10, 100, SLOW);
        for (int b = 0; b < 10; b++) Houses.lit(x, b, 1 + b);
        int sum = 0;
        for (int b = 9; b >= 0; b--) {
            sum += 1 + b;
            Due.is("current: of board " + b, x.of(b, CURRENT), sum);
        }
        Due.is("current: of the board 0", x.count(AT_BOARD_0), 55);
        x.turn(5);
        Due.is("current: one is off", x.count(AT_BOARD_0), 49);
        Due.is("current: as far as it comes", x.of(6, CURRENT), 34);
    }

    private static void currentOf14LoadsAt200() {
        FuseBoards x = Houses.inARow(10, 100, SLOW);
        for (int i = 0; i < 14; i++) Houses.lit(x, 9, 200);
        Due.is("current: 2800 at 9", x.of(9, CURRENT), 2800);
        Due.is("current: 2800 at 0", x.of(0, CURRENT), 2800);
    }

    private static void currentLeavesDeadBoardsOut() {
        FuseBoards x = blownInTheMiddle(4, 0);
        for (int b = 0; b < 10; b++) Houses.lit(x, b, 1 + b);
        int[] due = {10, 9, 7, 4, 0, 0, 0, 0, 0, 0};
        for (int b = 0; b < 10; b++) Due.is("current: with 4 open, of " + b, x.of(b, CURRENT), due[b]);
    }

    private static void currentOfOneLoadThroughTenBoards() {
        for (int at = 0; at < 10; at++) {
            FuseBoards x = Houses.inARow(10, 100, SLOW);
            Houses.lit(x, at, 7);
            for (int b = 0; b < 10; b++) Due.is("current: of " + b, x.of(b, CURRENT), b <= at ? 7 : 0);
        }
    }

    // ---- heat

    private static void heatIs0AtFirst() {
        FuseBoards x = Houses.inARow(10, 1, QUICK);
        for (int b = 0; b < 10; b++) Due.is("heat: at first", x.of(b, HEAT), 0);
    }

    private static void meltingHeatByKindAndRating() {
        int[][] due = {{8, 40, 20}, {32, 160, 80}, {78408, 392040, 196020}, {80000, 400000, 200000}};
        int[] ratings = {1, 2, 99, 100};
        for (int i = 0; i < ratings.length; i++) {
            for (int kind = QUICK; kind <= OLD; kind++) {
                FuseBoards x = Houses.inARow(1, ratings[i], kind);
                Due.is("melting heat: " + ratings[i] + " of kind " + kind, x.of(0, MELTING), due[i][kind]);
            }
        }
    }

    private static FuseBoards ageing(int rating) {
        FuseBoards x = Houses.lone(rating, OLD, rating);
        x.set(AGE, 1);
        return x;
    }

    private static void meltingHeatIs1AtLeast() {
        // 20 * rating * rating - 20 * rating * steps: just 0 with as many steps as the rating.
        FuseBoards x = ageing(3);
        int[] due = {120, 60, 1, 1};
        for (int steps = 1; steps <= 4; steps++) {
            x.pass(1);
            Due.is("melting heat: steps", x.of(0, STEPS), steps);
            Due.is("melting heat: after " + steps, x.of(0, MELTING), due[steps - 1]);
        }
        FuseBoards most = ageing(100);
        most.pass(99);
        Due.is("melting heat: of 100 after 99", most.of(0, MELTING), 2000);
        most.pass(1);
        Due.is("melting heat: of 100 after 100", most.of(0, MELTING), 1);
        most.pass(99);
        Due.is("melting heat: far below", most.of(0, MELTING), 1);
        FuseBoards least = ageing(1);
        least.pass(1);
        Due.is("melting heat: of 1 after 1", least.of(0, MELTING), 1);
        Due.is("melting heat: cold, so whole", least.of(0, STATE), WHOLE);
    }

    // ---- a tick: 1, arcs

    private static void currentsAreThoseAtTheBeginning() {
        FuseBoards x = new FuseBoards();
        x.board(0, 50, SLOW);
        x.board(0, 1, QUICK);
        Houses.lit(x, 1, 60);
        x.pass(1);
        Due.is("tick: the arc is to end", x.of(1, ARC_LEFT), 1);
        x.pass(1);
        Due.is("tick: it ended", x.of(1, STATE), OPEN);
        Due.is("tick: its current heated in that tick yet", x.of(0, HEAT), 2 * 1100);
        x.pass(1);
        Due.is("tick: and no more in the next one", x.of(0, HEAT), 2 * 1100 - 1250);
    }

    private static void boardThatDiesInTheTickIsHeatedYet() {
        FuseBoards x = Houses.inARow(1, 1, QUICK);
        x.board(0, 50, SLOW);
        Houses.lit(x, 1, 60);
        x.pass(1);
        Due.is("tick: 0 burns", x.of(0, STATE), BURNS);
        x.pass(1);
        Due.is("tick: 1 is dead by then", x.of(1, DEAD), 1);
        Due.is("tick: and was heated yet", x.of(1, HEAT), 2 * 1100);
        x.pass(1);
        Due.is("tick: and cools as without a current", x.of(1, HEAT), 2 * 1100 - 1250);
    }

    private static void arcOf1BurnsForOneTick() {
        FuseBoards x = Houses.lone(1, QUICK, 3);
        Due.is("arc 1: blows", x.pass(1), 1);
        Due.is("arc 1: burns", x.of(0, STATE), BURNS);
        Due.is("arc 1: one tick yet", x.of(0, ARC_LEFT), 1);
        Due.is("arc 1: no more blows", x.pass(1), 0);
        Due.is("arc 1: open", x.of(0, STATE), OPEN);
        Due.is("arc 1: no tick", x.of(0, ARC_LEFT), 0);
        x.pass(99);
        Due.is("arc 1: stays open", x.of(0, STATE), OPEN);
        Due.is("arc 1: nothing below none", x.of(0, ARC_LEFT), 0);
    }

    private static void arcOf0IsOpenAtOnce() {
        FuseBoards x = Houses.lone(1, QUICK, 3);
        x.set(ARC, 0);
        Due.is("arc 0: blows", x.pass(1), 1);
        Due.is("arc 0: open", x.of(0, STATE), OPEN);
        Due.is("arc 0: none burns", x.count(ALL_BURNING), 0);
        Due.is("arc 0: dead", x.of(0, DEAD), 1);
        Due.is("arc 0: blew once", x.pass(99), 0);
    }

    private static void arcOf9BurnsForNineTicks() {
        FuseBoards x = Houses.lone(1, QUICK, 3);
        x.set(ARC, 9);
        x.pass(1);
        for (int left = 9; left >= 1; left--) {
            Due.is("arc 9: ticks yet", x.of(0, ARC_LEFT), left);
            Due.is("arc 9: burns", x.of(0, STATE), BURNS);
            x.pass(1);
        }
        Due.is("arc 9: open", x.of(0, STATE), OPEN);
    }

    // ---- a tick: 2, heat

    private static void currentOneAboveTheRatingHeats() {
        for (int[] ratingAndHeat : new int[][] {{1, 3}, {2, 5}, {99, 199}, {100, 201}}) {
            FuseBoards x = Houses.lone(ratingAndHeat[0], SLOW, ratingAndHeat[0] + 1);
            x.pass(1);
            Due.is("heat: one above " + ratingAndHeat[0], x.of(0, HEAT), ratingAndHeat[1]);
            x.pass(1);
            Due.is("heat: twice", x.of(0, HEAT), 2 * ratingAndHeat[1]);
        }
    }

    /** A fuse rated 50 with the heat 1100, which then has another current. */
    private static FuseBoards warmed(int cool, int current) {
        FuseBoards x = Houses.lone(50, SLOW, 60);
        x.set(COOL, cool);
        x.pass(1);
        x.turn(0);
        Houses.lit(x, 0, current);
        x.pass(1);
        return x;
    }

    private static void currentEqualToTheRatingKeepsTheHeat() {
        for (int cool : new int[] {1, 9}) {
            FuseBoards x = warmed(cool, 50);
            Due.is("heat: at the rating", x.of(0, HEAT), 1100);
            x.pass(99);
            Due.is("heat: for long", x.of(0, HEAT), 1100);
        }
        FuseBoards cold = Houses.lone(50, SLOW, 50);
        cold.pass(99);
        Due.is("heat: of a cold one at the rating", cold.of(0, HEAT), 0);
    }

    private static void currentOneBelowTheRatingCools() {
        Due.is("heat: by 99", warmed(1, 49).of(0, HEAT), 1100 - 99);
        Due.is("heat: by 99 / 2", warmed(2, 49).of(0, HEAT), 1100 - 49);
        Due.is("heat: by 99 / 9", warmed(9, 49).of(0, HEAT), 1100 - 11);
        Due.is("heat: one above instead", warmed(1, 51).of(0, HEAT), 1100 + 101);
    }

    private static void coolingIsRoundedDown() {
        Due.is("heat: (2500 - 1) / 8 is 312", warmed(8, 1).of(0, HEAT), 1100 - 312);
        Due.is("heat: (2500 - 4) / 8 is 312", warmed(8, 2).of(0, HEAT), 1100 - 312);
        Due.is("heat: (2500 - 9) / 8 is 311", warmed(8, 3).of(0, HEAT), 1100 - 311);
    }

    private static void coolingIsRoundedDownToNothing() {
        FuseBoards x = Houses.lone(1, SLOW, 2);
        x.pass(1);
        x.turn(0);
        x.pass(99);
        Due.is("heat: 1 / 2 is nothing", x.of(0, HEAT), 3);
        x.set(COOL, 9);
        x.pass(99);
        Due.is("heat: 1 / 9 is nothing", x.of(0, HEAT), 3);
        x.set(COOL, 1);
        for (int left = 2; left >= 0; left--) {
            x.pass(1);
            Due.is("heat: 1 / 1", x.of(0, HEAT), left);
        }
        x.pass(1);
        Due.is("heat: 0 stays", x.of(0, HEAT), 0);
    }

    private static void heatIs0AtLeast() {
        // 10 ticks of 21 are 210, and 100 / 9 is 11: after 19 ticks 1 is left.
        FuseBoards x = Houses.lone(10, SLOW, 11);
        x.set(COOL, 9);
        x.pass(10);
        x.turn(0);
        x.pass(18);
        Due.is("heat: 210 - 18 * 11", x.of(0, HEAT), 12);
        x.pass(1);
        Due.is("heat: one more than nothing", x.of(0, HEAT), 1);
        x.pass(1);
        Due.is("heat: not below 0", x.of(0, HEAT), 0);
        // 12 * 12 - 10 * 10 is 44, just four times 11.
        FuseBoards y = Houses.lone(10, SLOW, 12);
        y.set(COOL, 9);
        y.pass(1);
        y.turn(0);
        y.pass(4);
        Due.is("heat: just 0", y.of(0, HEAT), 0);
        y.pass(99);
        Due.is("heat: stays 0", y.of(0, HEAT), 0);
        y.turn(0);
        y.pass(1);
        Due.is("heat: and goes up from 0", y.of(0, HEAT), 44);
    }

    /** A slow fuse rated 100 that has a heat, and then for a tick a current of so many times 200. */
    private static FuseBoards heatedUp(int cool, int loads, int rest) {
        FuseBoards x = Houses.lone(100, SLOW, 150);
        x.set(COOL, cool);
        x.pass(1);
        x.turn(0);
        x.pass(1);
        for (int i = 0; i < loads; i++) Houses.lit(x, 0, 200);
        if (rest > 0) Houses.lit(x, 0, rest);
        return x;
    }

    private static void heatIs1000000AtMost() {
        // 150 * 150 - 100 * 100 is 12500; a tick without a current takes 10000 / COOL of it.
        FuseBoards just = heatedUp(4, 5, 0);
        Due.is("heat: 12500 - 2500", just.of(0, HEAT), 10000);
        Due.is("heat: blows", just.pass(1), 1);
        Due.is("heat: 10000 + 990000 is just 1000000", just.of(0, HEAT), 1000000);
        FuseBoards above = heatedUp(5, 5, 0);
        Due.is("heat: 12500 - 2000", above.of(0, HEAT), 10500);
        above.pass(1);
        Due.is("heat: 1000500 is too much", above.of(0, HEAT), 1000000);
        FuseBoards below = heatedUp(3, 5, 0);
        Due.is("heat: 12500 - 3333", below.of(0, HEAT), 9167);
        below.pass(1);
        Due.is("heat: 999167 is not", below.of(0, HEAT), 999167);
        FuseBoards cold = heatedUp(1, 5, 4);
        Due.is("heat: of a colder one", cold.of(0, HEAT), 2500);
        cold.pass(1);
        Due.is("heat: 2500 + 1004 * 1004 - 10000", cold.of(0, HEAT), 1000000);
        FuseBoards first = Houses.lone(1, QUICK, 200);
        for (int i = 1; i < 14; i++) Houses.lit(first, 0, 200);
        first.pass(1);
        Due.is("heat: 2800 * 2800 at once", first.of(0, HEAT), 1000000);
    }

    private static void heatStaysAt1000000AndCoolsFromIt() {
        FuseBoards x = Houses.inARow(2, 100, SLOW);
        x.board(1, 1, QUICK);
        for (int i = 0; i < 14; i++) Houses.lit(x, 2, 200);
        x.set(ARC, 9);
        x.pass(1);
        Due.is("heat: the nearer one went", x.blown(0), 2);
        Due.is("heat: hot all the same", x.of(0, HEAT), 1000000);
        x.pass(1);
        Due.is("heat: 1 went", x.blown(0), 1);
        Due.is("heat: 0 is no hotter", x.of(0, HEAT), 1000000);
        Due.is("heat: and whole", x.of(0, STATE), WHOLE);
        x.undo();
        for (int i = 0; i < 14; i++) x.turn(i);
        x.pass(1);
        Due.is("heat: cools by 10000 / 2", x.of(0, HEAT), 995000);
    }

    private static void fuseThatBurnsOrIsOpenKeepsItsHeat() {
        FuseBoards x = Houses.lone(1, QUICK, 3);
        x.set(ARC, 2);
        x.set(COOL, 1);
        x.pass(1);
        x.pass(1);
        Due.is("heat: burns, and has what it had", x.of(0, HEAT), 8);
        x.turn(0);
        x.pass(1);
        Due.is("heat: open, and has it", x.of(0, HEAT), 8);
        x.pass(9);
        Due.is("heat: for good", x.of(0, HEAT), 8);
    }

    /** Each of ten boards is the only one with a current above its rating, or above half of it, once. */
    private static void tenBoardsKeepWhatIsTheirsApart() {
        for (int hot = 0; hot < 10; hot++) {
            FuseBoards x = new FuseBoards();
            x.set(AGE, 2);
            for (int b = 0; b < 10; b++) x.board(0, b == hot ? 10 : 100, b == hot ? OLD : SLOW);
            Houses.lit(x, hot, 20);
            x.pass(5);
            for (int b = 0; b < 10; b++) {
                Due.is("apart: heat of " + b, x.of(b, HEAT), b == hot ? 1500 : 0);
                Due.is("apart: steps of " + b, x.of(b, STEPS), b == hot ? 2 : 0);
                Due.is("apart: how is " + b, x.of(b, STATE), WHOLE);
                Due.is("apart: arc of " + b, x.of(b, ARC_LEFT), 0);
                Due.is("apart: blown at " + b, x.of(b, BLEW_HERE), 0);
            }
        }
    }

    private static void deadBoardCoolsAsWithoutACurrent() {
        FuseBoards x = Houses.inARow(1, 10, QUICK);
        x.set(ARC, 0);
        x.board(0, 50, SLOW);
        Houses.lit(x, 1, 60);
        Due.is("heat: 0 blows at once", x.pass(1), 1);
        Due.is("heat: 1 was heated", x.of(1, HEAT), 1100);
        x.set(COOL, 3);
        x.pass(1);
        Due.is("heat: 2500 / 3 less, its load being on", x.of(1, HEAT), 1100 - 833);
    }

    // ---- a tick: 2, creeping

    private static int stepsOf(int rating, int kind, int current) {
        FuseBoards x = Houses.lone(rating, kind, current);
        x.set(AGE, 1);
        x.pass(1);
        return x.of(0, STEPS);
    }

    private static void justHalfTheRatingDoesNotCreep() {
        for (int rating : new int[] {2, 4, 50, 100}) {
            Due.is("creeping: half of " + rating, stepsOf(rating, OLD, rating / 2), 0);
            Due.is("creeping: one above half of " + rating, stepsOf(rating, OLD, rating / 2 + 1), 1);
        }
        FuseBoards none = Houses.inARow(1, 1, OLD);
        none.set(AGE, 1);
        none.pass(9);
        Due.is("creeping: without a current", none.of(0, STEPS), 0);
    }

    private static void oneAboveHalfTheRatingCreeps() {
        // Of an odd rating the half is none of the currents: the one below it and the one above.
        for (int rating : new int[] {3, 5, 9, 99}) {
            Due.is("creeping: below half of " + rating, stepsOf(rating, OLD, rating / 2), 0);
            Due.is("creeping: above half of " + rating, stepsOf(rating, OLD, rating / 2 + 1), 1);
        }
        Due.is("creeping: 1 of 1", stepsOf(1, OLD, 1), 1);
    }

    private static void creepingGoesOnAboveTheRating() {
        Due.is("creeping: at the rating", stepsOf(50, OLD, 50), 1);
        Due.is("creeping: above the rating", stepsOf(50, OLD, 51), 1);
        Due.is("creeping: far above", stepsOf(50, OLD, 200), 1);
    }

    private static void otherKindsDoNotCreep() {
        for (int kind : new int[] {QUICK, SLOW}) {
            for (int current : new int[] {26, 50, 51}) Due.is("creeping: kind " + kind, stepsOf(50, kind, current), 0);
        }
    }

    private static void onlyWholeFusesCreep() {
        FuseBoards x = Houses.lone(1, OLD, 200);
        x.set(AGE, 1);
        x.set(ARC, 9);
        x.pass(1);
        Due.is("creeping: as it blew", x.of(0, STEPS), 1);
        x.pass(9);
        Due.is("creeping: none in the arc", x.of(0, STEPS), 1);
        x.pass(9);
        Due.is("creeping: nor when open", x.of(0, STEPS), 1);
        FuseBoards dead = Houses.inARow(1, 10, QUICK);
        dead.set(AGE, 1);
        dead.set(ARC, 0);
        dead.board(0, 100, OLD);
        Houses.lit(dead, 1, 60);
        dead.pass(1);
        Due.is("creeping: in the tick in which 0 blew", dead.of(1, STEPS), 1);
        dead.pass(9);
        Due.is("creeping: not at a dead board", dead.of(1, STEPS), 1);
    }

    private static void ageTicksReached(int board) {
        FuseBoards x = Houses.last(board, 100, OLD, 51);
        x.pass(9);
        Due.is("creeping: 9 of 10 ticks", x.of(board, STEPS), 0);
        x.pass(1);
        Due.is("creeping: 10 of 10", x.of(board, STEPS), 1);
        x.pass(9);
        Due.is("creeping: 9 more", x.of(board, STEPS), 1);
        x.pass(1);
        Due.is("creeping: 10 more", x.of(board, STEPS), 2);
        Due.is("creeping: its melting heat", x.of(board, MELTING), 200000 - 2 * 2000);
    }

    private static FuseBoards crept(int ticks) {
        FuseBoards x = Houses.lone(100, OLD, 51);
        x.pass(ticks);
        return x;
    }

    private static void ageLoweredBelowWhatItHasCrept() {
        FuseBoards x = crept(9);
        x.set(AGE, 3);
        Due.is("creeping: nothing by the setting itself", x.of(0, STEPS), 0);
        x.turn(0);
        x.pass(9);
        Due.is("creeping: nor by ticks without creeping", x.of(0, STEPS), 0);
        x.turn(0);
        x.pass(1);
        Due.is("creeping: 10 are 3 or more: one step", x.of(0, STEPS), 1);
        x.pass(2);
        Due.is("creeping: anew from 0", x.of(0, STEPS), 1);
        x.pass(1);
        Due.is("creeping: three more", x.of(0, STEPS), 2);
    }

    private static void ageLoweredToWhatItHasCrept() {
        FuseBoards x = crept(4);
        x.set(AGE, 4);
        Due.is("creeping: 4 of 4, but not by a tick", x.of(0, STEPS), 0);
        x.pass(1);
        Due.is("creeping: 5 are 4 or more", x.of(0, STEPS), 1);
        x.pass(3);
        Due.is("creeping: not from 1", x.of(0, STEPS), 1);
        FuseBoards y = crept(4);
        y.set(AGE, 5);
        y.pass(1);
        Due.is("creeping: just 5 of 5", y.of(0, STEPS), 1);
        FuseBoards z = crept(4);
        z.set(AGE, 6);
        z.pass(1);
        Due.is("creeping: 5 of 6", z.of(0, STEPS), 0);
    }

    private static void ageRaisedJustInTime() {
        FuseBoards x = crept(9);
        x.set(AGE, 50);
        x.pass(40);
        Due.is("creeping: 49 of 50", x.of(0, STEPS), 0);
        x.pass(1);
        Due.is("creeping: 50 of 50", x.of(0, STEPS), 1);
    }

    private static void pausesDoNotUndoCreeping() {
        FuseBoards x = crept(9);
        x.turn(0);
        x.pass(99);
        x.turn(0);
        x.pass(1);
        Due.is("creeping: 9 and 1", x.of(0, STEPS), 1);
    }

    // ---- a tick: 3, blowing

    private static void heatOfJustTheMeltingHeatBlows() {
        Due.is("blow: quick, 8 of 8", Houses.lone(1, QUICK, 3).pass(1), 1);
        Due.is("blow: quick, 32 of 32", Houses.lone(2, QUICK, 6).pass(1), 1);
        FuseBoards slow = Houses.lone(1, SLOW, 3);
        Due.is("blow: slow, 32 of 40", slow.pass(4), 0);
        Due.is("blow: slow, 40 of 40", slow.pass(1), 1);
        Due.is("blow: its heat", slow.of(0, HEAT), 40);
        // 8 and four times 3 are 20.
        FuseBoards old = Houses.lone(1, OLD, 3);
        old.pass(1);
        old.turn(0);
        Houses.lit(old, 0, 2);
        Due.is("blow: old, 17 of 20", old.pass(3), 0);
        Due.is("blow: old, 20 of 20", old.pass(1), 1);
        Due.is("blow: its heat too", old.of(0, HEAT), 20);
    }

    private static void heatOneBelowTheMeltingHeatDoesNot() {
        FuseBoards slow = Houses.lone(1, SLOW, 2);
        Due.is("blow: slow, 39 of 40", slow.pass(13), 0);
        Due.is("blow: so hot", slow.of(0, HEAT), 39);
        Due.is("blow: slow, 42 of 40", slow.pass(1), 1);
        // 21 and twice 5 are 31.
        FuseBoards quick = Houses.lone(2, QUICK, 5);
        quick.pass(1);
        quick.turn(0);
        Houses.lit(quick, 0, 3);
        Due.is("blow: quick, 31 of 32", quick.pass(2), 0);
        Due.is("blow: as hot", quick.of(0, HEAT), 31);
        Due.is("blow: quick, 36 of 32", quick.pass(1), 1);
        // Twice 8 and 3 are 19.
        FuseBoards old = Houses.lone(1, OLD, 3);
        old.pass(2);
        old.turn(0);
        Houses.lit(old, 0, 2);
        Due.is("blow: old, 19 of 20", old.pass(1), 0);
        Due.is("blow: nearly", old.of(0, HEAT), 19);
        Due.is("blow: old, 22 of 20", old.pass(1), 1);
    }

    private static void stepOfTheSameTickCounts() {
        // By 21 a tick to 1050 in the tick 50; melting at 2000, less 200 with each 10 ticks: at 1000 then.
        FuseBoards x = Houses.lone(10, OLD, 11);
        Due.is("blow: 1029 of 1200", x.pass(49), 0);
        Due.is("blow: 1050 of 1000", x.pass(1), 1);
        Due.is("blow: steps as it blew", x.of(0, STEPS), 5);
        Due.is("blow: melting heat as it blew", x.of(0, MELTING), 1000);
    }

    private static void stepAloneCanBlowAFuse() {
        FuseBoards x = Houses.lone(2, OLD, 4);
        x.pass(1);
        x.turn(0);
        Houses.lit(x, 0, 2);
        x.set(AGE, 1);
        Due.is("blow: 12 of 40", x.pass(1), 0);
        Due.is("blow: 12 of 1, the heat being the same", x.pass(1), 1);
        Due.is("blow: the heat", x.of(0, HEAT), 12);
    }

    private static void heat0NeverBlows() {
        FuseBoards x = ageing(1);
        Due.is("blow: 0 of 1", x.pass(99), 0);
        Houses.lit(x, 0, 1);
        Due.is("blow: 3 of 1", x.pass(1), 1);
    }

    private static void nearerOneGoesFirst() {
        FuseBoards x = Houses.inARow(2, 1, QUICK);
        Houses.lit(x, 1, 3);
        Due.is("nearer: one alone", x.pass(1), 1);
        Due.is("nearer: it is 1", x.of(1, STATE), BURNS);
        Due.is("nearer: 0 stays whole", x.of(0, STATE), WHOLE);
        Due.is("nearer: as hot as it is", x.of(0, HEAT), 8);
        Due.is("nearer: nothing blew there", x.of(0, BLEW_HERE), 0);
        Due.is("nearer: 0 goes then", x.pass(1), 1);
        Due.is("nearer: hotter by the arc", x.of(0, HEAT), 16);
    }

    private static void nearerOneGoesFirstOverAColdOneBetween() {
        FuseBoards x = Houses.inARow(1, 1, QUICK);
        for (int b = 1; b < 9; b++) x.board(b - 1, 100, SLOW);
        x.board(8, 1, QUICK);
        Houses.lit(x, 9, 3);
        Due.is("nearer: over eight boards", x.pass(1), 1);
        Due.is("nearer: it is 9", x.blown(0), 9);
        Due.is("nearer: 0 is whole", x.of(0, STATE), WHOLE);
    }

    private static void eachBranchHasItsOwnNearest() {
        FuseBoards x = new FuseBoards();
        int[] from = {0, 0, 0, 1, 1, 2, 3, 4, 5, 5};
        for (int b = 0; b < 10; b++) x.board(from[b], 1, QUICK);
        for (int b : new int[] {6, 4, 2}) Houses.lit(x, b, 100);
        // Hot are 6, 3, 1 and 0; 4; 2.
        Due.is("nearer: one of each branch", x.pass(1), 3);
        Due.is("nearer: those", x.count(ALL_BURNING), 64 + 16 + 4);
        int[] state = {WHOLE, WHOLE, BURNS, WHOLE, BURNS, WHOLE, BURNS, WHOLE, WHOLE, WHOLE};
        for (int b = 0; b < 10; b++) Due.is("nearer: board " + b, x.of(b, STATE), state[b]);
        Due.is("nearer: then 3", x.pass(1), 1);
        Due.is("nearer: then 1", x.pass(1), 1);
        Due.is("nearer: 1 as the latest", x.blown(0), 1);
    }

    private static void nearerOneThatBurnsHoldsNothingBack() {
        FuseBoards x = Houses.inARow(3, 1, QUICK);
        x.set(ARC, 9);
        Houses.lit(x, 2, 3);
        for (int b = 2; b >= 0; b--) {
            Due.is("nearer: one in each tick", x.pass(1), 1);
            Due.is("nearer: of those that were whole", x.blown(0), b);
        }
        Due.is("nearer: all burn", x.count(ALL_BURNING), 7);
    }

    private static void hotFuseWithoutACurrentBlows() {
        FuseBoards x = Houses.inARow(3, 1, QUICK);
        x.set(ARC, 0);
        Houses.lit(x, 2, 3);
        x.pass(1);
        Due.is("nearer: 2 is open, so nothing flows", x.of(1, CURRENT), 0);
        Due.is("nearer: of 1 and 0 the nearer", x.pass(1), 1);
        Due.is("nearer: by its heat", x.blown(0), 1);
        Due.is("nearer: then 0", x.pass(1), 1);
        Due.is("nearer: it is 0", x.blown(0), 0);
    }

    private static void hotFuseAtADeadBoardBlows() {
        // 10 * 10 - 2 * 2 is 96, and 40 * 2 * 2 is 160: hot in the second tick, in which the arc at 0 ends.
        FuseBoards x = Houses.inARow(1, 1, QUICK);
        x.board(0, 2, SLOW);
        x.board(1, 2, SLOW);
        Houses.lit(x, 2, 10);
        Due.is("dead: 0 blows", x.pass(1), 1);
        Due.is("dead: 2 blows though 0 is open by then", x.pass(1), 1);
        Due.is("dead: it is 2", x.blown(0), 2);
        Due.is("dead: all of them", x.count(ALL_DEAD), 7);
        Due.is("dead: 1 is as hot", x.of(1, HEAT), 192);
        Due.is("dead: and blows in the next tick", x.pass(1), 1);
        Due.is("dead: it is 1", x.blown(0), 1);
        Due.is("dead: with less heat", x.of(1, HEAT), 190);
    }

    private static void tenBoardsInARowGoOneByOne() {
        for (int arc : new int[] {0, 9}) {
            FuseBoards x = Houses.inARow(10, 1, QUICK);
            x.set(ARC, arc);
            Houses.lit(x, 9, 200);
            for (int b = 9; b >= 0; b--) {
                Due.is("nearer: one of ten", x.pass(1), 1);
                Due.is("nearer: board " + b, x.blown(0), b);
            }
            Due.is("nearer: ten blew", x.count(BLEW), 10);
            Due.is("nearer: none is left", x.pass(99), 0);
            Due.is("nearer: all open", x.count(ALL_OPEN), 1023);
        }
    }

    // ---- a tick: 4

    private static void timeIsOneMore() {
        FuseBoards x = new FuseBoards();
        Due.is("time: at first", x.count(TIME), 0);
        x.pass(1);
        Due.is("time: without boards", x.count(TIME), 1);
        x.board(0, 1, QUICK);
        Houses.lit(x, 0, 200);
        Due.is("time: other changes take none", x.count(TIME), 1);
        x.pass(1);
        Due.is("time: a tick in which a fuse blows", x.count(TIME), 2);
    }
}
