/** Each promise of the document with answers worked out by hand: ordinary inputs, edges, wrong inputs. */
public final class PromisesTest implements Codes {
    public static void main(String[] args) {
        promise1NewObject();
        promise2Set();
        promise3Board();
        promise4Load();
        promise5Turn();
        promise6Fuse();
        promise6FuseFurtherDown();
        promise7Pass();
        promise7HeatAndCooling();
        promise7Creeping();
        promise7NearerOneFirst();
        promise7Arcs();
        promise8Of();
        promise9OfLoad();
        promise10Fed();
        promise11Blown();
        promise12Count();
        promise13Next();
        promise14Test();
        promise15Unfair();
        promise16IfOpen();
        promise17Put();
        promise18Wipe();
        promise19Fault();
        promise20CarryOut();
        promise20OrderThatFails();
        promise21Undo();
        promise21EachChangeRecords();
        promise21EachChangeIsUndone();
        promise22Save();
        promise23Restore();
        Due.end();
    }

    private static void promise1NewObject() {
        FuseBoards x = new FuseBoards();
        int[] due = {0, 0, 0, 0, 0, 0, 0, 0, 0, 1, 2, 10, 0, 0};
        for (int what = 0; what < due.length; what++) Due.is("1: count(" + what + ")", x.count(what), due[what]);
        Due.is("1: of(0, 0)", x.of(0, 0), NO_SUCH);
        Due.is("1: blown(0)", x.blown(0), NO_SUCH);
        Due.is("1: undo()", x.undo(), NOT_POSSIBLE);
        Due.is("1: restore(0)", x.restore(0), NOT_POSSIBLE);
    }

    private static void promise2Set() {
        FuseBoards x = new FuseBoards();
        int[] least = {0, 1, 1}, most = {9, 9, 50}, first = {1, 2, 10};
        for (int s = ARC; s <= AGE; s++) {
            Due.is("2: below the range", x.set(s, least[s] - 1), BAD_VALUE);
            Due.is("2: above the range", x.set(s, most[s] + 1), BAD_VALUE);
            Due.is("2: far below", x.set(s, LOW), BAD_VALUE);
            Due.is("2: far above", x.set(s, HIGH), BAD_VALUE);
            Due.is("2: unchanged", x.count(9 + s), first[s]);
            Due.is("2: the least", x.set(s, least[s]), first[s]);
            Due.is("2: the most", x.set(s, most[s]), least[s]);
            Due.is("2: told", x.count(9 + s), most[s]);
        }
        for (int s : new int[] {-1, 3, LOW, HIGH}) Due.is("2: setting " + s, x.set(s, 1), BAD_VALUE);
        Due.is("2: six changes", x.count(13), 6);

        FuseBoards burns = Houses.lone(1, QUICK, 200);
        burns.set(ARC, 4);
        burns.pass(1);
        burns.set(ARC, 9);
        Due.is("2: an arc burns as long as it would", burns.of(0, 10), 4);
        burns.set(ARC, 0);
        burns.pass(3);
        Due.is("2: still burns", burns.of(0, 3), 1);
        burns.pass(1);
        Due.is("2: is open then", burns.of(0, 3), 2);
    }

    private static void promise3Board() {
        FuseBoards x = new FuseBoards();
        Due.is("3: a bad first one", x.board(0, 101, QUICK), BAD_VALUE);
        Due.is("3: first one, from -7", x.board(-7, 100, OLD), 0);
        Due.is("3: from itself", x.board(1, 5, QUICK), NO_SUCH);
        Due.is("3: from -1", x.board(-1, 5, QUICK), NO_SUCH);
        Due.is("3: no such goes first", x.board(1, 0, 9), NO_SUCH);
        Due.is("3: rating 0", x.board(0, 0, QUICK), BAD_VALUE);
        Due.is("3: rating 101", x.board(0, 101, QUICK), BAD_VALUE);
        Due.is("3: kind -1", x.board(0, 5, -1), BAD_VALUE);
        Due.is("3: kind 3", x.board(0, 5, 3), BAD_VALUE);
        Due.is("3: nothing came", x.count(1), 1);
        Due.is("3: nothing recorded", x.count(13), 1);
        for (int i = 1; i < 10; i++) Due.is("3: board " + i, x.board(i - 1, i, i % 3), i);
        Due.is("3: one too many", x.board(9, 1, QUICK), TOO_MANY);
        Due.is("3: bad goes before too many", x.board(9, 0, QUICK), BAD_VALUE);
        Due.is("3: no such goes before too many", x.board(10, 0, QUICK), NO_SUCH);
        Due.is("3: its number", x.of(7, 0), 6);
        Due.is("3: its rating", x.of(7, 1), 7);
        Due.is("3: its kind", x.of(7, 2), 1);
        Due.is("3: a whole fuse", x.of(7, 3), 0);
        Due.is("3: a cold fuse", x.of(7, 5), 0);
    }

    private static void promise4Load() {
        FuseBoards x = new FuseBoards();
        Due.is("4: without boards", x.load(0, 5), NO_SUCH);
        x.board(0, 10, QUICK);
        Due.is("4: at no board", x.load(1, 0), NO_SUCH);
        Due.is("4: at -1", x.load(-1, 5), NO_SUCH);
        Due.is("4: current 0", x.load(0, 0), BAD_VALUE);
        Due.is("4: current 201", x.load(0, 201), BAD_VALUE);
        Due.is("4: first", x.load(0, 200), 0);
        Due.is("4: off", x.ofLoad(0, 2), 0);
        Due.is("4: current", x.ofLoad(0, 1), 200);
        for (int i = 1; i < 14; i++) Due.is("4: load " + i, x.load(0, i), i);
        Due.is("4: one too many", x.load(0, 1), TOO_MANY);
        Due.is("4: bad goes before too many", x.load(0, 201), BAD_VALUE);
        Due.is("4: no such goes before too many", x.load(1, 1), NO_SUCH);
        Due.is("4: all off", x.count(4), 0);
        Due.is("4: fourteen", x.count(2), 14);
    }

    private static void promise5Turn() {
        FuseBoards x = new FuseBoards();
        Due.is("5: without loads", x.turn(0), NO_SUCH);
        x.board(0, 10, QUICK);
        for (int i = 0; i < 14; i++) x.load(0, i + 1);
        Due.is("5: on", x.turn(13), 1);
        Due.is("5: its current", x.of(0, 4), 14);
        Due.is("5: a second one on", x.turn(2), 1);
        Due.is("5: both", x.of(0, 4), 17);
        Due.is("5: off", x.turn(13), 0);
        Due.is("5: the other one", x.of(0, 4), 3);
        Due.is("5: load 14", x.turn(14), NO_SUCH);
        Due.is("5: load -1", x.turn(-1), NO_SUCH);
        Due.is("5: far below", x.turn(LOW), NO_SUCH);
    }

    private static void promise6Fuse() {
        FuseBoards x = Houses.lone(10, OLD, 10);
        x.set(AGE, 3);
        x.pass(5);
        Due.is("6: a step older", x.of(0, 7), 1);
        Due.is("6: no such", x.fuse(1, 0, 0), NO_SUCH);
        Due.is("6: rating 0", x.fuse(0, 0, QUICK), BAD_VALUE);
        Due.is("6: rating 101", x.fuse(0, 101, QUICK), BAD_VALUE);
        Due.is("6: kind 3", x.fuse(0, 10, 3), BAD_VALUE);
        Due.is("6: kind -1", x.fuse(0, 10, -1), BAD_VALUE);
        Due.is("6: the rating that was", x.fuse(0, 8, OLD), 10);
        Due.is("6: as new", x.of(0, 7), 0);
        Due.is("6: rating", x.of(0, 1), 8);
        x.pass(2);
        Due.is("6: heat", x.of(0, 5), 72);
        Due.is("6: creeps from 0", x.of(0, 7), 0);
        x.pass(1);
        Due.is("6: and gets older anew", x.of(0, 7), 1);
        Due.is("6: again", x.fuse(0, 9, OLD), 8);
        Due.is("6: cold", x.of(0, 5), 0);

        FuseBoards y = Houses.lone(1, QUICK, 200);
        y.set(ARC, 2);
        y.pass(1);
        Due.is("6: burns", y.fuse(0, 5, QUICK), NOT_POSSIBLE);
        Due.is("6: bad goes first", y.fuse(0, 0, QUICK), BAD_VALUE);
        y.pass(2);
        Due.is("6: open", y.of(0, 3), 2);
        Due.is("6: put in anew", y.fuse(0, 100, SLOW), 1);
        Due.is("6: whole", y.of(0, 3), 0);
        Due.is("6: not dead", y.of(0, 8), 0);
        Due.is("6: kind", y.of(0, 2), SLOW);
        Due.is("6: what blew stays told", y.of(0, 11), 1);
    }

    private static void promise6FuseFurtherDown() {
        FuseBoards x = new FuseBoards();
        x.set(ARC, 2);
        x.set(AGE, 3);
        x.board(0, 100, SLOW);
        x.board(0, 20, OLD);
        x.board(1, 10, OLD);
        x.load(2, 11);
        x.turn(0);
        x.pass(5);
        Due.is("6: heat", x.of(2, 5), 105);
        Due.is("6: age", x.of(2, 7), 1);
        Due.is("6: melting heat by age", x.of(2, 6), 1800);
        Due.is("6: the age of what feeds it", x.of(1, 7), 1);
        Due.is("6: the rating that was", x.fuse(2, 9, OLD), 10);
        Due.is("6: cold", x.of(2, 5), 0);
        Due.is("6: as new", x.of(2, 7), 0);
        Due.is("6: rating", x.of(2, 1), 9);
        x.pass(2);
        Due.is("6: creeps from 0", x.of(2, 7), 0);
        Due.is("6: the other one goes on", x.of(1, 7), 2);
        x.load(2, 200);
        x.turn(1);
        Due.is("6: blow", x.pass(1), 1);
        Due.is("6: burns", x.fuse(2, 9, OLD), NOT_POSSIBLE);
        x.pass(1);
        Due.is("6: for one tick yet", x.of(2, 10), 1);
        Due.is("6: which is enough", x.fuse(2, 9, OLD), NOT_POSSIBLE);
        x.pass(1);
        Due.is("6: open", x.fuse(2, 9, OLD), 9);
    }

    private static void promise7Pass() {
        FuseBoards x = new FuseBoards();
        for (int ticks : new int[] {0, -1, 100, LOW, HIGH}) Due.is("7: ticks " + ticks, x.pass(ticks), BAD_VALUE);
        Due.is("7: time stands", x.count(0), 0);
        for (int i = 0; i < 101; i++) Due.is("7: 99 ticks", x.pass(99), 0);
        Due.is("7: the last one", x.pass(1), NOT_POSSIBLE);
        Due.is("7: bad goes first", x.pass(100), BAD_VALUE);
        Due.is("7: time", x.count(0), 9999);
        x.undo();
        Due.is("7: before", x.count(0), 9900);
        Due.is("7: less than 99", x.pass(98), 0);
        Due.is("7: above 9999", x.pass(2), NOT_POSSIBLE);
        Due.is("7: just 9999", x.pass(1), 0);
        Due.is("7: time again", x.count(0), 9999);
    }

    private static void promise7HeatAndCooling() {
        FuseBoards x = Houses.lone(10, QUICK, 11);
        x.load(0, 10);
        x.load(0, 3);
        x.pass(3);
        Due.is("7: 11 * 11 - 10 * 10, three times", x.of(0, 5), 63);
        x.turn(0);
        x.turn(1);
        x.pass(1);
        Due.is("7: at the rating nothing", x.of(0, 5), 63);
        x.turn(1);
        x.turn(2);
        x.pass(1);
        Due.is("7: (100 - 9) / 2 less, rounded down", x.of(0, 5), 18);
        x.set(COOL, 9);
        x.pass(1);
        Due.is("7: (100 - 9) / 9 less", x.of(0, 5), 8);
        x.pass(1);
        Due.is("7: 0 at least", x.of(0, 5), 0);
        x.turn(0);
        x.turn(2);
        // Melting heat 800, by 21 a tick: in the tick 39 it is 819.
        Due.is("7: not yet", x.pass(38), 0);
        Due.is("7: 38 * 21", x.of(0, 5), 798);
        Due.is("7: blows", x.pass(1), 1);
        Due.is("7: as it blew", x.of(0, 5), 819);

        FuseBoards below = new FuseBoards();
        below.board(0, 100, SLOW);
        below.board(0, 50, SLOW);
        below.load(1, 60);
        below.turn(0);
        below.pass(3);
        Due.is("7: three times 1100", below.of(1, 5), 3300);
        below.turn(0);
        below.pass(1);
        Due.is("7: 2500 / 2 less", below.of(1, 5), 2050);
        below.set(COOL, 1);
        below.load(1, 40);
        below.turn(1);
        below.pass(1);
        Due.is("7: 900 / 1 less", below.of(1, 5), 1150);

        FuseBoards just = Houses.lone(1, QUICK, 3);
        Due.is("7: a heat of the melting heat is enough", just.pass(1), 1);
        Due.is("7: just 8", just.of(0, 5), 8);

        FuseBoards hot = new FuseBoards();
        hot.board(0, 100, SLOW);
        for (int i = 0; i < 14; i++) {
            hot.load(0, 200);
            hot.turn(i);
        }
        Due.is("7: 2800 amperes", hot.of(0, 4), 2800);
        Due.is("7: blows at once", hot.pass(1), 1);
        Due.is("7: 1000000 at most", hot.of(0, 5), 1000000);
    }

    private static void promise7Creeping() {
        FuseBoards half = Houses.lone(10, OLD, 5);
        half.set(AGE, 1);
        half.pass(5);
        Due.is("7: half its rating is not above", half.of(0, 7), 0);
        half.load(0, 1);
        half.turn(1);
        half.pass(3);
        Due.is("7: above half", half.of(0, 7), 3);
        Due.is("7: 20 * 10 less for each", half.of(0, 6), 1400);

        for (int kind = QUICK; kind <= SLOW; kind++) {
            FuseBoards other = Houses.lone(10, kind, 10);
            other.set(AGE, 1);
            other.pass(9);
            Due.is("7: no old one", other.of(0, 7), 0);
        }

        FuseBoards late = Houses.lone(10, OLD, 8);
        late.pass(9);
        Due.is("7: nine ticks", late.of(0, 7), 0);
        late.turn(0);
        late.pass(5);
        late.set(AGE, 3);
        late.pass(1);
        Due.is("7: no step without creeping", late.of(0, 7), 0);
        late.turn(0);
        late.pass(1);
        Due.is("7: AGE ticks or more", late.of(0, 7), 1);
        late.pass(2);
        Due.is("7: anew from 0", late.of(0, 7), 1);
        late.pass(1);
        Due.is("7: three more", late.of(0, 7), 2);

        // Its melting heat, 80, is 40 less with each step.
        FuseBoards aged = Houses.lone(2, OLD, 2);
        aged.set(AGE, 1);
        Due.is("7: cold ones don't go", aged.pass(10), 0);
        Due.is("7: 1 at least", aged.of(0, 6), 1);
        aged.load(0, 1);
        aged.turn(1);
        Due.is("7: goes by little heat", aged.pass(1), 1);
        Due.is("7: its heat", aged.of(0, 5), 5);
        Due.is("7: its age", aged.of(0, 7), 11);

        FuseBoards step = Houses.lone(1, OLD, 2);
        step.set(AGE, 6);
        // By 3 a tick to 18 in the tick 6, melting at 20; the step of that tick brings it down to 1.
        Due.is("7: five ticks", step.pass(5), 0);
        Due.is("7: by the step of this tick", step.pass(1), 1);
    }

    /** Boards 0 - 1 - 2 in a row, and 3 beside 1, all rated 1, with a load of 200 at 2 and at 3. */
    private static FuseBoards row() {
        FuseBoards x = new FuseBoards();
        x.board(0, 1, QUICK);
        x.board(0, 1, QUICK);
        x.board(1, 1, QUICK);
        x.board(0, 1, QUICK);
        x.load(2, 200);
        x.load(3, 200);
        x.turn(0);
        return x;
    }

    private static void promise7NearerOneFirst() {
        FuseBoards x = row();
        x.set(ARC, 0);
        x.turn(1);
        Due.is("7: the nearest of each branch", x.pass(1), 2);
        Due.is("7: those at 2 and 3", x.count(5), 12);
        Due.is("7: the others stay whole", x.of(1, 3), 0);
        Due.is("7: and as hot as they are", x.of(1, 5), 39999);
        Due.is("7: no current now", x.of(0, 4), 0);
        Due.is("7: the next one, by its heat alone", x.pass(1), 1);
        Due.is("7: it is 1", x.of(1, 3), 2);
        Due.is("7: and then 0, without a current", x.pass(1), 1);
        Due.is("7: all dead", x.count(3), 15);
    }

    private static void promise7Arcs() {
        FuseBoards x = row();
        x.set(ARC, 2);
        Due.is("7: blows", x.pass(1), 1);
        Due.is("7: an arc", x.of(2, 3), 1);
        Due.is("7: two ticks", x.of(2, 10), 2);
        Due.is("7: the current goes on", x.of(1, 4), 200);
        Due.is("7: the next one blows", x.pass(1), 1);
        Due.is("7: and burns", x.count(6), 6);
        Due.is("7: the last one, and the first is open", x.pass(1), 1);
        Due.is("7: open", x.count(5), 4);
        Due.is("7: burn", x.count(6), 3);
        Due.is("7: no current through an open one", x.of(0, 4), 0);
        x.pass(1);
        Due.is("7: open too", x.count(5), 6);
        x.pass(1);
        Due.is("7: all open", x.count(5), 7);
        Due.is("7: three blew", x.count(7), 3);

        // The currents are those at a tick's beginning: the tick that ends the arc still heats what feeds it.
        FuseBoards end = new FuseBoards();
        end.board(0, 100, SLOW);
        end.board(0, 1, QUICK);
        end.load(1, 110);
        end.turn(0);
        end.pass(1);
        Due.is("7: heat by the tick", end.of(0, 5), 2100);
        end.pass(1);
        Due.is("7: open", end.of(1, 3), 2);
        Due.is("7: heated in the arc's last tick", end.of(0, 5), 4200);
        end.pass(1);
        Due.is("7: cools by 10000 / 2", end.of(0, 5), 0);
    }

    private static void promise8Of() {
        FuseBoards x = new FuseBoards();
        x.board(5, 10, OLD);
        x.board(0, 20, SLOW);
        x.board(1, 30, QUICK);
        x.board(0, 1, QUICK);
        x.load(2, 7);
        x.load(3, 100);
        x.turn(0);
        int[] due = {1, 30, 0, 0, 7, 0, 7200, 0, 0, 2, 0, 0};
        for (int what = 0; what < due.length; what++) Due.is("8: of(2, " + what + ")", x.of(2, what), due[what]);
        Due.is("8: the board 0", x.of(0, 0), NONE);
        Due.is("8: fed from 0", x.of(3, 0), 0);
        Due.is("8: an old one's melting heat", x.of(0, 6), 2000);
        Due.is("8: a slow one's", x.of(1, 6), 16000);
        Due.is("8: between 0 and outside", x.of(0, 9), 0);
        Due.is("8: between 3 and outside", x.of(3, 9), 1);
        Due.is("8: no such", x.of(4, 99), NO_SUCH);
        Due.is("8: board -1", x.of(-1, 0), NO_SUCH);
        Due.is("8: board LOW", x.of(LOW, 0), NO_SUCH);
        Due.is("8: what -1", x.of(0, -1), BAD_VALUE);
        Due.is("8: what 12", x.of(0, 12), BAD_VALUE);
        x.set(ARC, 3);
        x.turn(1);
        x.pass(1);
        Due.is("8: burns", x.of(3, 3), 1);
        Due.is("8: ticks yet", x.of(3, 10), 3);
        Due.is("8: not dead while it burns", x.of(3, 8), 0);
        Due.is("8: a current while it burns", x.of(3, 4), 100);
        Due.is("8: as it blew", x.of(3, 5), 9999);
        x.turn(1);
        x.pass(3);
        Due.is("8: open", x.of(3, 3), 2);
        Due.is("8: dead", x.of(3, 8), 1);
        Due.is("8: no ticks", x.of(3, 10), 0);
        Due.is("8: still as it blew", x.of(3, 5), 9999);
        Due.is("8: blew here once", x.of(3, 11), 1);
        x.fuse(3, 1, QUICK);
        x.turn(1);
        x.pass(1);
        Due.is("8: blew here twice", x.of(3, 11), 2);
        Due.is("8: not there", x.of(1, 11), 0);
    }

    private static void promise9OfLoad() {
        FuseBoards x = row();
        Due.is("9: its board", x.ofLoad(1, 0), 3);
        Due.is("9: its current", x.ofLoad(0, 1), 200);
        Due.is("9: on", x.ofLoad(0, 2), 1);
        Due.is("9: works", x.ofLoad(0, 3), 1);
        Due.is("9: off", x.ofLoad(1, 2), 0);
        Due.is("9: doesn't work", x.ofLoad(1, 3), 0);
        Due.is("9: no such", x.ofLoad(2, 9), NO_SUCH);
        Due.is("9: load -1", x.ofLoad(-1, 0), NO_SUCH);
        Due.is("9: what 4", x.ofLoad(0, 4), BAD_VALUE);
        Due.is("9: what -1", x.ofLoad(0, -1), BAD_VALUE);
        x.pass(1);
        Due.is("9: works through an arc", x.ofLoad(0, 3), 1);
        x.pass(1);
        Due.is("9: on at a dead board", x.ofLoad(0, 2), 1);
        Due.is("9: but works no more", x.ofLoad(0, 3), 0);
    }

    /** A house whose only open fuse is that of the board 0, which feeds 1, which feeds 2. */
    private static FuseBoards openAtTheTop() {
        FuseBoards x = new FuseBoards();
        x.set(ARC, 0);
        x.board(0, 1, QUICK);
        x.board(0, 100, SLOW);
        x.board(1, 100, SLOW);
        for (int b = 0; b < 3; b++) {
            x.load(b, 2 + b);
            x.turn(b);
        }
        x.pass(1);
        return x;
    }

    private static void promise10Fed() {
        FuseBoards x = new FuseBoards();
        Due.is("10: without boards", x.fed(0), NO_SUCH);
        int[] from = {0, 0, 0, 1, 2, 3, 1, 5, 4, 7};
        for (int i = 0; i < 10; i++) x.board(from[i], 5, QUICK);
        int[] due = {1023, 2 + 8 + 32 + 64 + 128 + 512, 4 + 16 + 256, 8 + 32 + 128 + 512, 16 + 256, 32 + 128 + 512, 64,
            128 + 512, 256, 512};
        for (int i = 0; i < 10; i++) Due.is("10: fed(" + i + ")", x.fed(i), due[i]);
        Due.is("10: no such", x.fed(10), NO_SUCH);
        Due.is("10: board -1", x.fed(-1), NO_SUCH);
    }

    private static void promise11Blown() {
        FuseBoards x = new FuseBoards();
        x.set(ARC, 0);
        x.board(0, 100, SLOW);
        for (int i = 1; i < 10; i++) x.board(0, 1, QUICK);
        for (int i = 1; i < 10; i++) {
            x.load(i, 3);
            x.turn(i - 1);
        }
        x.turn(3);
        Due.is("11: none yet", x.blown(0), NO_SUCH);
        Due.is("11: eight at once", x.pass(1), 8);
        int[] first = {9, 8, 7, 6, 5, 3, 2, 1};
        for (int rank = 0; rank < 8; rank++) Due.is("11: blown(" + rank + ")", x.blown(rank), first[rank]);
        x.turn(3);
        Due.is("11: one more", x.pass(1), 1);
        Due.is("11: it is the last", x.blown(0), 4);
        Due.is("11: the others follow", x.blown(1), 9);
        Due.is("11: the oldest of eight", x.blown(7), 2);
        Due.is("11: the latest 8 alone", x.blown(8), NO_SUCH);
        Due.is("11: nine blew", x.count(7), 9);
        Due.is("11: rank -1", x.blown(-1), NO_SUCH);
        Due.is("11: rank LOW", x.blown(LOW), NO_SUCH);
        Due.is("11: rank HIGH", x.blown(HIGH), NO_SUCH);

        FuseBoards two = row();
        two.pass(1);
        Due.is("11: one", two.blown(0), 2);
        Due.is("11: not two", two.blown(1), NO_SUCH);
    }

    private static void promise12Count() {
        FuseBoards x = row();
        x.load(1, 50);
        x.turn(2);
        x.set(ARC, 3);
        x.set(COOL, 4);
        x.set(AGE, 5);
        Houses.type(x, "abc");
        x.pass(2);
        int[] before = {2, 4, 3, 0, 5, 0, 6, 2, 250, 3, 4, 5, 3, 6};
        for (int what = 0; what < 14; what++) Due.is("12: count(" + what + ")", x.count(what), before[what]);
        x.pass(3);
        x.fuse(2, 9, SLOW);
        int[] after = {5, 4, 3, 6, 0, 2, 1, 3, 0, 3, 4, 5, 3, 6};
        for (int what = 0; what < 14; what++) Due.is("12: later count(" + what + ")", x.count(what), after[what]);
        FuseBoards top = openAtTheTop();
        Due.is("12: one is open", top.count(5), 1);
        Due.is("12: all are dead", top.count(3), 7);
        Due.is("12: none works", top.count(4), 0);
        top.fuse(0, 50, SLOW);
        Due.is("12: none is dead", top.count(3), 0);
        Due.is("12: all work", top.count(4), 7);
        Due.is("12: the current of the board 0", top.count(8), 9);
        Due.is("12: what -1", x.count(-1), BAD_VALUE);
        Due.is("12: what 14", x.count(14), BAD_VALUE);
        Due.is("12: what LOW", x.count(LOW), BAD_VALUE);
    }

    private static void promise13Next() {
        FuseBoards none = new FuseBoards();
        Due.is("13: without boards", none.next(0), NONE);
        Due.is("13: without boards", none.next(1), NONE);
        Due.is("13: bad goes first", none.next(2), BAD_VALUE);
        Due.is("13: what -1", none.next(-1), BAD_VALUE);

        FuseBoards x = Houses.lone(10, QUICK, 11);
        Due.is("13: 39 ticks", x.next(0), 39);
        x.pass(38);
        Due.is("13: the tick itself is one", x.next(0), 1);
        Due.is("13: nothing changed", x.count(0), 38);
        Due.is("13: nor the heat", x.of(0, 5), 798);
        Due.is("13: nor the history", x.count(13), 4);

        // 31 * 31 - 30 * 30 = 61 a tick, to 40 * 900 = 36000: far more than 200 ticks.
        FuseBoards slow = Houses.lone(30, SLOW, 31);
        Due.is("13: none within 200", slow.next(0), NONE);
        Due.is("13: nor a board", slow.next(1), NONE);
        // 20 * 20 * 40 = 16000, by 21 * 21 - 20 * 20 = 41 a tick: in the tick 391.
        FuseBoards edge = Houses.lone(20, SLOW, 21);
        edge.pass(99);
        edge.pass(91);
        Due.is("13: 201 ticks are too many", edge.next(0), NONE);
        edge.pass(1);
        Due.is("13: 200 are not", edge.next(0), 200);

        FuseBoards both = row();
        both.turn(1);
        Due.is("13: of several", both.next(0), 1);
        Due.is("13: the lowest", both.next(1), 2);

        FuseBoards late = new FuseBoards();
        for (int i = 0; i < 101; i++) late.pass(99);
        late.board(0, 10, QUICK);
        late.load(0, 11);
        late.turn(0);
        Due.is("13: the bound of the time does not matter", late.next(0), 39);
    }

    private static void promise14Test() {
        FuseBoards x = new FuseBoards();
        x.board(0, 20, QUICK);
        x.board(0, 10, SLOW);
        x.board(0, 1, QUICK);
        x.load(1, 200);
        x.load(2, 200);
        x.turn(1);
        Due.is("14: no such", x.test(3, 0, 9), NO_SUCH);
        Due.is("14: board -1", x.test(-1, 5, 0), NO_SUCH);
        Due.is("14: current 0", x.test(0, 0, 0), BAD_VALUE);
        Due.is("14: current 10000", x.test(0, 10000, 0), BAD_VALUE);
        Due.is("14: what 2", x.test(0, 5, 2), BAD_VALUE);
        Due.is("14: what -1", x.test(0, 5, -1), BAD_VALUE);
        // At board 1: by 40 * 40 - 20 * 20 = 1200 a tick to 3200, and by 1600 - 100 = 1500 a tick to 4000.
        Due.is("14: both in three ticks", x.test(1, 40, 0), 3);
        Due.is("14: the nearer one", x.test(1, 40, 1), 1);
        // By 30 * 30 - 400 = 500 to 3200, and by 800 to 4000.
        Due.is("14: in five ticks", x.test(1, 30, 0), 5);
        Due.is("14: at the rating of all none", x.test(1, 10, 0), NONE);
        Due.is("14: nor a board", x.test(1, 10, 1), NONE);
        Due.is("14: 9999 amperes", x.test(0, 9999, 0), 1);
        x.pass(1);
        Due.is("14: nothing tests by its heat", x.test(2, 1, 0), NONE);
        Due.is("14: the arc carries on, and 0 goes", x.test(2, 9999, 1), 0);
        x.pass(1);
        Due.is("14: a dead board", x.test(2, 9999, 0), NONE);
        Due.is("14: nothing changed", x.count(0), 2);
        Due.is("14: loads on", x.ofLoad(1, 2), 1);
        Due.is("14: heat as it was", x.of(0, 5), 2 * (200 * 200 - 400));

        // All 14 loads may be there: the fault is one besides.
        FuseBoards full = new FuseBoards();
        full.board(0, 10, QUICK);
        for (int i = 0; i < 14; i++) full.load(0, 10);
        Due.is("14: with 14 loads", full.test(0, 20, 0), 3);
        full.turn(0);
        Due.is("14: loads are off in it", full.test(0, 10, 0), NONE);

        // An old fuse keeps its age, and what it has crept.
        FuseBoards aged = Houses.lone(2, OLD, 2);
        aged.set(AGE, 2);
        // By 5 a tick, melting at 80, at 40 from the tick 2 on, and at 1 in the tick 4.
        Due.is("14: a new one", aged.test(0, 3, 0), 4);
        aged.pass(5);
        Due.is("14: its age counts", aged.test(0, 3, 0), 1);

        // 100 * 100 * 40 = 400000, by 201 a tick: in the tick 1991.
        FuseBoards far = new FuseBoards();
        far.board(0, 100, SLOW);
        Due.is("14: not within 200", far.test(0, 101, 0), NONE);
        // By 3 a tick from just 0 to 40: at 39 in the tick 13.
        Due.is("14: from a heat of 0", Houses.lone(1, SLOW, 3).test(0, 2, 0), 14);
        // By 109 * 109 - 10000 = 1881 a tick: in the tick 213; by 110 * 110 - 10000 = 2100: in the tick 191.
        Due.is("14: 213", far.test(0, 109, 0), NONE);
        Due.is("14: 191", far.test(0, 110, 0), 191);
    }

    private static void promise15Unfair() {
        FuseBoards x = new FuseBoards();
        Due.is("15: without boards", x.unfair(20), 0);
        x.board(0, 20, QUICK);
        x.board(0, 16, SLOW);
        x.board(0, 10, QUICK);
        x.board(1, 1, SLOW);
        // Times 2: at 1 by 32 * 32 - 400 = 624 to 3200 in 6 ticks, by 1024 - 256 = 768 to 10240 in 14.
        Due.is("15: the wrong fuse goes at 1", x.unfair(2), 2);
        // Times 20 at 1: 320 amperes blow 0 and 1 at once, the nearer one goes.
        Due.is("15: times 20", x.unfair(20), 0);
        Due.is("15: times 1", x.unfair(1), BAD_VALUE);
        Due.is("15: times 21", x.unfair(21), BAD_VALUE);
        Due.is("15: times LOW", x.unfair(LOW), BAD_VALUE);
        Due.is("15: times HIGH", x.unfair(HIGH), BAD_VALUE);
        Due.is("15: nothing changed", x.count(13), 4);

        // A board whose own fuse burns: that of the one that feeds it goes.
        FuseBoards burns = new FuseBoards();
        burns.set(ARC, 9);
        burns.board(0, 2, QUICK);
        burns.board(0, 1, QUICK);
        burns.load(1, 3);
        burns.turn(0);
        burns.pass(1);
        Due.is("15: burns", burns.count(6), 2);
        Due.is("15: the one ahead goes", burns.unfair(20), 2);
        burns.turn(0);
        burns.pass(9);
        Due.is("15: nothing goes at a dead board", burns.unfair(20), 0);
    }

    private static void promise16IfOpen() {
        FuseBoards x = new FuseBoards();
        Due.is("16: without boards", x.ifOpen(0), NO_SUCH);
        x.board(0, 100, SLOW);
        x.board(0, 50, SLOW);
        x.board(1, 1, QUICK);
        x.board(0, 50, SLOW);
        for (int b = 0; b < 4; b++) {
            x.load(b, 3);
            x.load(b, 3);
            x.turn(2 * b);
        }
        Due.is("16: at 0 all that work", x.ifOpen(0), 1 + 4 + 16 + 64);
        Due.is("16: at 1", x.ifOpen(1), 4 + 16);
        Due.is("16: at 2", x.ifOpen(2), 16);
        Due.is("16: at 3", x.ifOpen(3), 64);
        x.pass(1);
        Due.is("16: a burning fuse would be open", x.ifOpen(2), 16);
        x.pass(1);
        Due.is("16: works already no more", x.ifOpen(2), 0);
        Due.is("16: nor from 1", x.ifOpen(1), 4);
        Due.is("16: no such", x.ifOpen(4), NO_SUCH);
        Due.is("16: board -1", x.ifOpen(-1), NO_SUCH);
        Due.is("16: nothing opened", x.count(5), 4);
    }

    private static void promise17Put() {
        FuseBoards x = new FuseBoards();
        Due.is("17: no character", x.put(0), BAD_VALUE);
        Due.is("17: code 32", x.put(32), BAD_VALUE);
        Due.is("17: code 127", x.put(127), BAD_VALUE);
        Due.is("17: code 128", x.put(128), BAD_VALUE);
        Due.is("17: code 255s", x.put(-1), BAD_VALUE);
        Due.is("17: a gap", x.put(0x740031L), BAD_VALUE);
        Due.is("17: only above a gap", x.put(0x7400L), BAD_VALUE);
        Due.is("17: far above a gap", x.put(0x7400000000000031L), BAD_VALUE);
        Due.is("17: the highest bit", x.put(Long.MIN_VALUE), BAD_VALUE);
        Due.is("17: a bad one among them", x.put(Houses.packed("t 1")), BAD_VALUE);
        Due.is("17: a bad first one of eight", x.put(Houses.packed("\u00e91234567")), BAD_VALUE);
        Due.is("17: nothing stands", x.count(12), 0);
        Due.is("17: code 33", x.put(33), 1);
        Due.is("17: code 126", x.put(126), 2);
        Due.is("17: eight", x.put(Houses.packed("~!345678")), 10);
        for (int length = 18; length <= 74; length += 8) Due.is("17: more", x.put(Houses.packed("12345678")), length);
        Due.is("17: 81", x.put(Houses.packed("1234567")), TOO_MANY);
        Due.is("17: bad goes first", x.put(Houses.packed("123456 ")), BAD_VALUE);
        Due.is("17: 80", x.put(Houses.packed("123456")), 80);
        Due.is("17: full", x.put(Houses.packed("1")), TOO_MANY);
        Due.is("17: length", x.count(12), 80);
        Due.is("17: no change", x.count(13), 0);

        FuseBoards order = new FuseBoards();
        order.put(Houses.packed("t1"));
        order.put(Houses.packed("2;t34"));
        order.carryOut();
        Due.is("17: in their order, behind what stood", order.count(0), 46);
    }

    private static void promise18Wipe() {
        FuseBoards x = new FuseBoards();
        Due.is("18: empty", x.wipe(), 0);
        Houses.type(x, "t12345");
        Due.is("18: the length that it had", x.wipe(), 6);
        Due.is("18: length now", x.count(12), 0);
        Due.is("18: again", x.wipe(), 0);
        Due.is("18: no change", x.count(13), 0);
        Houses.type(x, "t1");
        Due.is("18: anew", x.fault(), NONE);
    }

    private static int faultOf(String text) {
        FuseBoards x = new FuseBoards();
        Houses.type(x, text);
        return x.fault();
    }

    private static void promise19Fault() {
        Due.is("19: empty", new FuseBoards().fault(), 0);
        String[] good = {"b0.5q", "b9.999s", "b3.0o", "l0=0", "l9=999", "s0", "s13", "f7.100q", "t1", "t999;s5",
            "b0.40s;b0.16q;l1=12;s0;t10;f1.9o", "t0;t0"};
        for (String text : good) Due.is("19: " + text, faultOf(text), NONE);
        String[] early = {"b", "b0", "b0.", "b0.5", "b0.123", "l", "l3", "l3=", "s", "f", "f1", "f1.", "f1.0", "f0.5", "t",
            "t1;", "t1;b", "b0.5q;"};
        for (String text : early) Due.is("19: " + text, faultOf(text), text.length());
        Object[][] bad = {{"x", 0}, {";", 0}, {"1", 0}, {"B0.5q", 0}, {"bq", 1}, {"b.5q", 1}, {"b12", 2}, {"b0=5q", 2},
            {"b0.q", 3}, {"b0.05q", 4}, {"b0.1000q", 6}, {"b0.5x", 4}, {"b0.5;t1", 4}, {"b0.5qq", 5}, {"b0.5q5", 5},
            {"l0.5", 2}, {"l10=5", 2}, {"l0=x", 3}, {"l0=5q", 4}, {"l0=1000", 6}, {"s01", 2}, {"s1000", 4},
            {"s1000000000000", 4}, {"sx", 1}, {"s-1", 1}, {"f0=5q", 2}, {"t00", 2}, {"t5t5", 2},
            {"t5;;t5", 3}, {"t5;x", 3}, {"t5;s1;u", 6}, {"t5q", 2}, {"t5.1", 2}, {"t999.", 4}};
        for (Object[] pair : bad) {
            Due.is("19: " + pair[0], faultOf((String) pair[0]), (Integer) pair[1]);
        }
        StringBuilder full = new StringBuilder("s1");
        while (full.length() < 80) full.append(";s1");
        Due.is("19: 80 characters", faultOf(full.toString()), NONE);
        full.setCharAt(79, ';');
        Due.is("19: the last of 80", faultOf(full.toString()), 79);
        FuseBoards x = new FuseBoards();
        Houses.type(x, "t5x");
        x.fault();
        Due.is("19: nothing changed", x.wipe(), 3);
    }

    private static void promise20CarryOut() {
        FuseBoards x = new FuseBoards();
        Due.is("20: empty", x.carryOut(), BAD_TEXT);
        Houses.type(x, "b7.40s;b0.16q;b1.10o;l2=12;l0=200;s0;s1;s1;f1.9o;t3");
        Due.is("20: ten orders", x.carryOut(), 10);
        Due.is("20: the pad is empty", x.count(12), 0);
        Due.is("20: one change", x.count(13), 1);
        Due.is("20: time", x.count(0), 3);
        Due.is("20: boards", x.count(1), 3);
        Due.is("20: loads", x.count(2), 2);
        int[][] due = {{NONE, 40, SLOW}, {0, 9, OLD}, {1, 10, OLD}};
        for (int b = 0; b < 3; b++) {
            for (int what = 0; what < 3; what++) Due.is("20: of(" + b + ", " + what + ")", x.of(b, what), due[b][what]);
        }
        Due.is("20: the first load is on", x.ofLoad(0, 2), 1);
        Due.is("20: the other one is not", x.ofLoad(1, 2), 0);
        Due.is("20: its board", x.ofLoad(1, 0), 0);
        Due.is("20: its current", x.ofLoad(1, 1), 200);
        Due.is("20: heat", x.of(2, 5), 3 * 44);
        Houses.type(x, "f0.1q");
        Due.is("20: a quick one", x.carryOut(), 1);
        Due.is("20: its kind", x.of(0, 2), QUICK);
        x.undo();
        Due.is("20: the kind that was", x.of(0, 2), SLOW);
        Due.is("20: undo of all", x.undo(), 0);
        Due.is("20: no boards", x.count(1), 0);
        Due.is("20: no time", x.count(0), 0);
        Due.is("20: the settings stand", x.count(11), 10);
    }

    private static void promise20OrderThatFails() {
        FuseBoards x = new FuseBoards();
        Houses.type(x, "t5;");
        Due.is("20: a fault", x.carryOut(), BAD_TEXT);
        Due.is("20: the pad stays", x.count(12), 3);
        Due.is("20: nothing recorded", x.count(13), 0);
        Due.is("20: nothing passed", x.count(0), 0);
        Houses.type(x, "s0;t5");
        Due.is("20: up to the first that fails", x.carryOut(), 1);
        Due.is("20: no order behind it", x.count(0), 5);
        Due.is("20: the pad is empty", x.count(12), 0);
        String[] failing = {"t0", "t100", "s0", "l0=5", "f0.5q", "b0.0q", "b0.101q"};
        for (String text : failing) {
            x.wipe();
            Houses.type(x, text);
            Due.is("20: none of " + text, x.carryOut(), 0);
        }
        Due.is("20: recorded all the same", x.count(13), 6);
        Due.is("20: nothing came", x.count(1), 0);

        FuseBoards many = new FuseBoards();
        Houses.type(many, "b0.1q;b0.1q;b0.1q;b0.1q;b0.1q;b0.1q;b0.1q;b0.1q;b0.1q;b0.1q;b0.1q;t1");
        Due.is("20: ten of eleven boards", many.carryOut(), 10);
        Due.is("20: ten boards", many.count(1), 10);
        Due.is("20: no tick", many.count(0), 0);

        FuseBoards full = new FuseBoards();
        Houses.type(full, "t1;t1;t1;t1;t1;t1;t1;t1;t1;t1;t1;t1;t1;t1;t1;t1;t1;t1;t1;t1;t1;t1;t1;t1;t1;t1;t1");
        Due.is("20: 27 orders", full.carryOut(), 27);
        Due.is("20: 27 ticks", full.count(0), 27);
    }

    private static void promise21Undo() {
        FuseBoards x = new FuseBoards();
        for (int i = 1; i <= 8; i++) x.pass(i);
        Due.is("21: six are kept", x.count(13), 6);
        int[] times = {28, 21, 15, 10, 6, 3};
        for (int i = 0; i < 6; i++) {
            Due.is("21: undo", x.undo(), 5 - i);
            Due.is("21: time", x.count(0), times[i]);
        }
        Due.is("21: none left", x.undo(), NOT_POSSIBLE);
        Due.is("21: the oldest were dropped", x.count(0), 3);

        FuseBoards all = Houses.lone(2, OLD, 3);
        all.set(AGE, 1);
        all.pass(1);
        all.save(0);
        Houses.type(all, "t1");
        all.set(ARC, 5);
        all.pass(3);
        all.fuse(0, 50, QUICK);
        Due.is("21: burns, so no", all.count(13), 6);
        all.pass(9);
        Due.is("21: of four", all.undo(), 5);
        Due.is("21: of three", all.undo(), 4);
        Due.is("21: of two", all.undo(), 3);
        Due.is("21: heat", all.of(0, 5), 5);
        Due.is("21: whole", all.of(0, 3), 0);
        Due.is("21: age", all.of(0, 7), 1);
        Due.is("21: arc", all.count(9), 1);
        Due.is("21: blown", all.blown(0), NO_SUCH);
        Due.is("21: blew here", all.of(0, 11), 0);
        Due.is("21: the pad stays", all.count(12), 2);
        Due.is("21: the slots stay", all.restore(0), 1);
        Due.is("21: a restore is a change", all.count(13), 4);

        // An error must not cost the oldest state.
        FuseBoards kept = new FuseBoards();
        for (int i = 0; i < 6; i++) kept.pass(1);
        kept.pass(0);
        kept.turn(3);
        for (int i = 0; i < 6; i++) kept.undo();
        Due.is("21: the oldest is there yet", kept.count(0), 0);
        Due.is("21: undone all", kept.count(13), 0);
    }

    private static void promise21EachChangeRecords() {
        FuseBoards x = new FuseBoards();
        x.set(ARC, 1);
        Due.is("21: set, also to the same", x.count(13), 1);
        x.board(0, 5, QUICK);
        Due.is("21: board", x.count(13), 2);
        x.load(0, 1);
        Due.is("21: load", x.count(13), 3);
        x.turn(0);
        Due.is("21: turn", x.count(13), 4);
        x.fuse(0, 5, QUICK);
        Due.is("21: fuse", x.count(13), 5);
        x.pass(1);
        Due.is("21: pass", x.count(13), 6);
        for (int i = 0; i < 4; i++) x.undo();
        x.save(0);
        Houses.type(x, "t0");
        x.fault();
        x.wipe();
        x.next(0);
        x.test(0, 5, 0);
        x.unfair(2);
        x.ifOpen(0);
        Due.is("21: these record nothing", x.count(13), 2);
        x.restore(0);
        Due.is("21: restore", x.count(13), 3);
        Houses.type(x, "t1;t1");
        x.carryOut();
        Due.is("21: a text", x.count(13), 4);
        x.undo();
        Due.is("21: the whole of it", x.count(0), 0);
        x.undo();
        x.undo();
        Due.is("21: without the board", x.count(1), 0);
        Due.is("21: a change after undo", x.pass(7), 0);
        Due.is("21: counts", x.count(13), 2);
        x.undo();
        Due.is("21: and can be undone", x.count(0), 0);
    }

    private static void promise21EachChangeIsUndone() {
        FuseBoards x = Houses.lone(10, QUICK, 5);
        x.save(1);
        x.set(COOL, 7);
        x.undo();
        Due.is("21: set", x.count(10), 2);
        x.board(0, 9, SLOW);
        x.undo();
        Due.is("21: board", x.count(1), 1);
        x.load(0, 9);
        x.undo();
        Due.is("21: load", x.count(2), 1);
        x.turn(0);
        x.undo();
        Due.is("21: turn", x.of(0, 4), 5);
        x.fuse(0, 9, SLOW);
        x.undo();
        Due.is("21: fuse, its rating", x.of(0, 1), 10);
        Due.is("21: fuse, its kind", x.of(0, 2), QUICK);
        x.pass(9);
        x.undo();
        Due.is("21: pass", x.count(0), 0);
        x.pass(4);
        x.restore(1);
        x.undo();
        Due.is("21: restore", x.count(0), 4);
        Houses.type(x, "t9;s0");
        x.carryOut();
        x.undo();
        Due.is("21: carryOut, the time", x.count(0), 4);
        Due.is("21: carryOut, the load", x.ofLoad(0, 2), 1);
        for (int left = 3; left >= 0; left--) Due.is("21: what came before", x.undo(), left);
        Due.is("21: back to the settings at first", x.count(9), 1);
        Due.is("21: without boards", x.count(1), 0);
    }

    private static void promise22Save() {
        FuseBoards x = new FuseBoards();
        Due.is("22: slot 2", x.save(2), BAD_VALUE);
        Due.is("22: slot -1", x.save(-1), BAD_VALUE);
        Due.is("22: slot LOW", x.save(LOW), BAD_VALUE);
        Due.is("22: none", x.save(0), 0);
        x.board(0, 5, QUICK);
        Due.is("22: one", x.save(1), 1);
        x.board(0, 5, QUICK);
        Due.is("22: no change", x.count(13), 2);
        Due.is("22: the slot 0", x.restore(0), 0);
        Due.is("22: the slot 1", x.restore(1), 1);
        x.board(0, 7, QUICK);
        Due.is("22: overwrites", x.save(0), 2);
        x.undo();
        Due.is("22: what was saved last", x.restore(0), 2);
        Due.is("22: of it", x.of(1, 1), 7);
    }

    private static void promise23Restore() {
        FuseBoards x = Houses.lone(2, OLD, 3);
        x.set(AGE, 2);
        x.set(ARC, 4);
        x.pass(1);
        Due.is("23: slot 2", x.restore(2), BAD_VALUE);
        Due.is("23: slot -1", x.restore(-1), BAD_VALUE);
        Due.is("23: nothing saved", x.restore(1), NOT_POSSIBLE);
        x.save(1);
        Due.is("23: still nothing in the other one", x.restore(0), NOT_POSSIBLE);
        x.set(COOL, 9);
        x.turn(0);
        x.load(0, 9);
        x.board(0, 9, QUICK);
        x.pass(9);
        Houses.type(x, "t1");
        Due.is("23: one board", x.restore(1), 1);
        Due.is("23: time", x.count(0), 1);
        Due.is("23: loads", x.count(2), 1);
        Due.is("23: on", x.count(4), 1);
        Due.is("23: heat", x.of(0, 5), 5);
        Due.is("23: settings", x.count(10), 2);
        Due.is("23: the pad stays", x.count(12), 2);
        x.pass(1);
        Due.is("23: what it has crept", x.of(0, 7), 1);
        Due.is("23: the slot keeps it", x.restore(1), 1);
        Due.is("23: as it was saved", x.of(0, 7), 0);
        Due.is("23: a change", x.undo(), 5);
        Due.is("23: undone", x.of(0, 7), 1);
        x.pass(1);
        Due.is("23: undo stands apart from the slot", x.restore(1), 1);
        Due.is("23: time again", x.count(0), 1);
    }
}
