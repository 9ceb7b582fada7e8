import java.util.ArrayDeque;
import java.util.Deque;

/** What the document names as an edge in the promises 21 to 23, each in a test of its own. */
public final class EdgesOfHistoryTest implements Codes {
    public static void main(String[] args) {
        undoOfNothing();
        undoOfOne();
        undoOfSix();
        seventhStateDropsTheOldest();
        undoAndChangesManyTimes();
        undoRecordsNothing();
        undoneChangesAreGone();
        errorsRecordNothingInAFullHistory();
        eachChangeRecordsOneState();
        changesWithoutADifferenceRecord();
        whatIsNoChangeRecordsNothing();
        undoOfEachChange();
        undoLeavesThePad();
        undoLeavesTheSlots();
        undoBringsBackAllOfTheState();
        ordersOfATextRecordNothing();
        slotsAre0And1();
        saveOfAnEmptyHouse();
        saveIsNoChange();
        saveOverwrites();
        saveReturnsTheBoards();
        slotsStandApart();
        nothingSavedInASlot();
        restoreErrorsInTheirOrder();
        restoreIsAChange();
        restoreInAFullHistory();
        slotKeepsWhatWasSaved();
        restoreLeavesPadHistoryAndSlots();
        restoreBringsBackAllOfTheState();
        restoreOfTheTime9999();
        Due.end();
    }

    /** A house at the time 0, in which so many changes were made: the first one passes 1 tick, the second 2, and so on. */
    private static FuseBoards changed(int changes) {
        FuseBoards x = new FuseBoards();
        for (int i = 1; i <= changes; i++) x.pass(i);
        return x;
    }

    // ---- promise 21

    private static void undoOfNothing() {
        Refused.is("21: a new one", FuseBoards::new, "undo", NOT_POSSIBLE, FuseBoards::undo);
        Refused.House allUndone = () -> {
            FuseBoards x = Houses.busy();
            for (int i = 0; i < 6; i++) x.undo();
            return x;
        };
        Refused.is("21: all undone", allUndone, "undo", NOT_POSSIBLE, FuseBoards::undo);
    }

    private static void undoOfOne() {
        FuseBoards x = changed(1);
        Due.is("21: one", x.undo(), 0);
        Due.is("21: the time", x.count(TIME), 0);
        Due.is("21: no more", x.undo(), NOT_POSSIBLE);
    }

    private static void undoOfSix() {
        FuseBoards x = changed(6);
        Due.is("21: six", x.count(UNDOABLE), 6);
        int[] times = {15, 10, 6, 3, 1, 0};
        for (int i = 0; i < 6; i++) {
            Due.is("21: left", x.undo(), 5 - i);
            Due.is("21: counted", x.count(UNDOABLE), 5 - i);
            Due.is("21: the time", x.count(TIME), times[i]);
        }
        Due.is("21: no more", x.undo(), NOT_POSSIBLE);
        Due.is("21: the time stays", x.count(TIME), 0);
    }

    private static void seventhStateDropsTheOldest() {
        for (int changes = 5; changes <= 20; changes++) {
            FuseBoards x = changed(changes);
            int kept = Math.min(6, changes);
            Due.is("21: kept of " + changes, x.count(UNDOABLE), kept);
            for (int left = kept - 1; left >= 0; left--) Due.is("21: left of " + changes, x.undo(), left);
            Due.is("21: no more of " + changes, x.undo(), NOT_POSSIBLE);
            int dropped = changes - kept;
            Due.is("21: the oldest of " + changes, x.count(TIME), dropped * (dropped + 1) / 2);
        }
    }

    private static void undoAndChangesManyTimes() {
        for (int undos = 1; undos <= 6; undos++) {
            FuseBoards x = new FuseBoards();
            Deque<Integer> kept = new ArrayDeque<>();
            int time = 0;
            for (int round = 0; round < 12; round++) {
                for (int i = 0; i < 1 + round % 8; i++) {
                    kept.addLast(time);
                    if (kept.size() > 6) kept.removeFirst();
                    Due.is("21: a change", x.pass(1 + i), 0);
                    time += 1 + i;
                    Due.is("21: states", x.count(UNDOABLE), kept.size());
                }
                for (int i = 0; i < undos; i++) {
                    Due.is("21: undo", x.undo(), kept.isEmpty() ? NOT_POSSIBLE : kept.size() - 1);
                    if (!kept.isEmpty()) time = kept.removeLast();
                    Due.is("21: the time", x.count(TIME), time);
                }
            }
        }
    }

    private static void undoRecordsNothing() {
        FuseBoards x = changed(3);
        x.undo();
        x.undo();
        Due.is("21: two of three undone", x.count(UNDOABLE), 1);
        x.undo();
        Due.is("21: not undone by undo", x.undo(), NOT_POSSIBLE);
        Due.is("21: the first time", x.count(TIME), 0);
    }

    private static void undoneChangesAreGone() {
        FuseBoards x = changed(6);
        x.undo();
        x.undo();
        x.pass(50);
        Due.is("21: five states", x.count(UNDOABLE), 5);
        x.undo();
        Due.is("21: before the 50", x.count(TIME), 10);
        x.undo();
        Due.is("21: and further", x.count(TIME), 6);
    }

    private static void errorsRecordNothingInAFullHistory() {
        FuseBoards x = changed(6);
        int[] errors = {x.set(3, 1), x.board(0, 0, 0), x.load(0, 1), x.turn(0), x.fuse(0, 1, 0), x.pass(0), x.carryOut(),
            x.save(2), x.restore(0), x.restore(2), x.put(0)};
        for (int error : errors) Due.isTrue("21: an error", error <= NO_SUCH && error >= NOT_POSSIBLE);
        Due.is("21: six still", x.count(UNDOABLE), 6);
        for (int i = 0; i < 6; i++) x.undo();
        Due.is("21: the oldest is there yet", x.count(TIME), 0);
        Due.is("21: and none is left", x.undo(), NOT_POSSIBLE);
    }

    private static FuseBoards small() {
        FuseBoards x = Houses.lone(10, OLD, 9);
        x.save(1);
        Houses.type(x, "t3;s0");
        return x;
    }

    private static Refused.Call[] changes() {
        return new Refused.Call[] {x -> x.set(AGE, 7), x -> x.board(0, 5, QUICK), x -> x.load(0, 9), x -> x.turn(0),
            x -> x.fuse(0, 9, SLOW), x -> x.pass(9), FuseBoards::carryOut, x -> x.restore(1)};
    }

    private static void eachChangeRecordsOneState() {
        for (Refused.Call change : changes()) {
            FuseBoards x = small();
            Due.isTrue("21: no error", change.on(x) >= 0);
            Due.is("21: one more state", x.count(UNDOABLE), 4);
        }
    }

    private static void changesWithoutADifferenceRecord() {
        FuseBoards x = Houses.inARow(1, 10, SLOW);
        x.save(0);
        Due.is("21: set to the same", x.set(ARC, 1), 1);
        Due.is("21: recorded", x.count(UNDOABLE), 2);
        Due.is("21: the same fuse", x.fuse(0, 10, SLOW), 10);
        Due.is("21: recorded, too", x.count(UNDOABLE), 3);
        Due.is("21: the same state", x.restore(0), 1);
        Due.is("21: recorded as well", x.count(UNDOABLE), 4);
        Houses.type(x, "s9");
        Due.is("21: no order carried out", x.carryOut(), 0);
        Due.is("21: recorded all the same", x.count(UNDOABLE), 5);
    }

    private static void whatIsNoChangeRecordsNothing() {
        Refused.Call[] calls = {x -> x.of(0, 0), x -> x.ofLoad(0, 0), x -> x.fed(0), x -> x.blown(0), x -> x.count(0),
            x -> x.next(0), x -> x.test(0, 99, 0), x -> x.unfair(2), x -> x.ifOpen(0), x -> x.put('a'), FuseBoards::wipe,
            FuseBoards::fault, x -> x.save(0)};
        for (Refused.Call call : calls) {
            FuseBoards x = small();
            call.on(x);
            Due.is("21: no state more", x.count(UNDOABLE), 3);
            x.undo();
            Due.is("21: what was undone is the turn", x.ofLoad(0, IS_ON), 0);
        }
    }

    private static void undoOfEachChange() {
        String before = Look.onwards(small());
        for (Refused.Call change : changes()) {
            FuseBoards x = small();
            int length = x.count(PAD);
            change.on(x);
            Due.is("21: undone", x.undo(), 3);
            if (x.count(PAD) < length) Houses.type(x, "t3;s0");
            Due.same("21: all is as it was", Look.onwards(x), before);
        }
    }

    private static void undoLeavesThePad() {
        FuseBoards x = changed(2);
        Houses.type(x, "t1");
        x.undo();
        Due.is("21: what was put in between", x.count(PAD), 2);
        Houses.type(x, ";t2");
        x.undo();
        Due.is("21: and more", x.carryOut(), 2);
        x.undo();
        Due.is("21: empty after carryOut, and stays so", x.count(PAD), 0);
        Due.is("21: as it tells", x.fault(), 0);
    }

    private static void undoLeavesTheSlots() {
        FuseBoards x = changed(2);
        x.save(0);
        x.undo();
        x.undo();
        Due.is("21: saved in between", x.restore(0), 0);
        Due.is("21: the time of it", x.count(TIME), 3);
        x.undo();
        Due.is("21: undone", x.count(TIME), 0);
        Due.is("21: and kept", x.restore(0), 0);
        Due.is("21: as it was", x.count(TIME), 3);
    }

    private static void undoBringsBackAllOfTheState() {
        Refused.Call[] calls = {x -> x.fuse(0, 1, QUICK), x -> x.load(0, 200), x -> x.set(ARC, 0), x -> x.pass(5), x -> x.turn(0)};
        for (Refused.House house : new Refused.House[] {Houses::busy, Houses::full}) {
            String before = Look.state(house.make());
            FuseBoards x = house.make();
            int taken = 0;
            for (Refused.Call call : calls) taken += call.on(x) >= 0 ? 1 : 0;
            Due.isTrue("21: some changes are taken", taken >= 3);
            for (int i = 0; i < taken; i++) x.undo();
            Due.same("21: all of it", Look.state(x), before);
        }
    }

    private static void ordersOfATextRecordNothing() {
        FuseBoards x = changed(3);
        Houses.type(x, "t10;t10;t10;t10;t10;t10;t10;t10");
        Due.is("21: eight orders", x.carryOut(), 8);
        Due.is("21: one state", x.count(UNDOABLE), 4);
        Due.is("21: undone", x.undo(), 3);
        Due.is("21: before all of them", x.count(TIME), 6);
        x.undo();
        Due.is("21: before the third change", x.count(TIME), 3);
    }

    // ---- promise 22

    private static void slotsAre0And1() {
        for (int slot = 0; slot <= 1; slot++) {
            FuseBoards x = Houses.full();
            Due.is("22: slot " + slot, x.save(slot), 10);
            Due.is("22: has it", x.restore(slot), 10);
        }
        for (Refused.House made : new Refused.House[] {FuseBoards::new, Houses::busy, Houses::full}) {
            Refused house = new Refused("22: slots", made);
            for (int slot : new int[] {LOW, -1, 2, 3, HIGH}) house.is("slot " + slot, BAD_VALUE, x -> x.save(slot));
        }
    }

    private static void saveOfAnEmptyHouse() {
        FuseBoards x = new FuseBoards();
        Due.is("22: no boards", x.save(0), 0);
        x.board(0, 5, QUICK);
        x.pass(1);
        Due.is("22: restored", x.restore(0), 0);
        Due.is("22: no boards again", x.count(BOARDS), 0);
        Due.is("22: the time 0", x.count(TIME), 0);
    }

    private static void saveIsNoChange() {
        FuseBoards x = Houses.busy();
        String before = Look.at(x);
        x.save(0);
        x.save(1);
        Due.same("22: nothing that is told", Look.at(x), before);
        FuseBoards none = new FuseBoards();
        none.save(0);
        Due.is("22: not recorded", none.undo(), NOT_POSSIBLE);
    }

    private static void saveOverwrites() {
        FuseBoards x = new FuseBoards();
        for (int i = 0; i < 10; i++) {
            Due.is("22: so many boards", x.save(i % 2), i);
            x.board(0, 5, QUICK);
        }
        Due.is("22: the last but one", x.restore(0), 8);
        Due.is("22: the last", x.restore(1), 9);
        x.save(0);
        Due.is("22: overwritten", x.restore(0), 9);
    }

    private static void saveReturnsTheBoards() {
        for (int boards = 0; boards <= 10; boards++) {
            FuseBoards x = Houses.inARow(boards, 5, QUICK);
            Due.is("22: boards", x.save(1), boards);
            x.board(0, 5, QUICK);
            Due.is("22: boards then", x.restore(1), boards);
        }
    }

    private static void slotsStandApart() {
        FuseBoards x = changed(1);
        x.save(0);
        x.pass(10);
        x.save(1);
        x.pass(50);
        x.restore(0);
        Due.is("22: of slot 0", x.count(TIME), 1);
        x.restore(1);
        Due.is("22: of slot 1", x.count(TIME), 11);
        FuseBoards y = new FuseBoards();
        Due.is("22: of another object", y.restore(0), NOT_POSSIBLE);
    }

    // ---- promise 23

    private static void nothingSavedInASlot() {
        Refused empty = new Refused("23: nothing saved", FuseBoards::new);
        for (int slot = 0; slot <= 1; slot++) {
            int asked = slot;
            empty.is("slot " + slot, NOT_POSSIBLE, x -> x.restore(asked));
            Refused.House other = () -> {
                FuseBoards x = changed(3);
                x.save(1 - asked);
                return x;
            };
            Refused.is("23: the other one saved", other, "slot " + slot, NOT_POSSIBLE, x -> x.restore(asked));
        }
        Refused.is("23: a busy one", Houses::busy, "slot 1", NOT_POSSIBLE, x -> x.restore(1));
    }

    private static void restoreErrorsInTheirOrder() {
        for (Refused.House made : new Refused.House[] {FuseBoards::new, Houses::busy, Houses::full}) {
            Refused house = new Refused("23: slots", made);
            for (int slot : new int[] {LOW, -1, 2, 3, HIGH}) house.is("slot " + slot, BAD_VALUE, x -> x.restore(slot));
        }
    }

    private static void restoreIsAChange() {
        FuseBoards x = changed(2);
        x.save(0);
        x.pass(9);
        Due.is("23: restored", x.restore(0), 0);
        Due.is("23: recorded", x.count(UNDOABLE), 4);
        Due.is("23: the time", x.count(TIME), 3);
        Due.is("23: undone", x.undo(), 3);
        Due.is("23: the time that was", x.count(TIME), 12);
    }

    private static void restoreInAFullHistory() {
        FuseBoards x = changed(6);
        x.save(0);
        x.restore(0);
        Due.is("23: six still", x.count(UNDOABLE), 6);
        for (int i = 0; i < 6; i++) x.undo();
        Due.is("23: the oldest was dropped", x.count(TIME), 1);
    }

    private static void slotKeepsWhatWasSaved() {
        FuseBoards x = Houses.busy();
        x.save(1);
        for (int times = 0; times < 3; times++) {
            x.pass(30);
            x.fuse(3, 100, SLOW);
            x.turn(0);
            Due.is("23: again", x.restore(1), 5);
            Due.is("23: the time", x.count(TIME), 11);
            Due.is("23: 3 is open", x.count(ALL_OPEN), 8);
            Due.is("23: 2 burns", x.of(2, ARC_LEFT), 3);
            Due.is("23: the load is on", x.ofLoad(0, IS_ON), 1);
        }
    }

    private static void restoreLeavesPadHistoryAndSlots() {
        FuseBoards x = changed(2);
        Houses.type(x, "t1");
        x.save(0);
        x.pass(5);
        x.save(1);
        x.put(Houses.packed(";t2"));
        x.restore(0);
        Due.is("23: the pad as it is now", x.count(PAD), 5);
        Due.is("23: the history as it is now", x.count(UNDOABLE), 4);
        x.restore(1);
        Due.is("23: the other slot", x.count(TIME), 8);
        x.wipe();
        x.restore(0);
        Due.is("23: an empty pad stays so", x.count(PAD), 0);
        for (int time : new int[] {8, 3, 8, 3, 1, 0}) {
            x.undo();
            Due.is("23: all the states", x.count(TIME), time);
        }
    }

    private static void restoreBringsBackAllOfTheState() {
        FuseBoards x = Houses.busy();
        x.save(1);
        String before = Look.onwards(x);
        x.fuse(0, 1, QUICK);
        x.set(COOL, 9);
        x.board(4, 7, QUICK);
        x.load(5, 200);
        x.turn(5);
        x.pass(7);
        x.restore(1);
        Due.same("23: all of it, as it goes on", Look.onwards(x), before);
    }

    private static void restoreOfTheTime9999() {
        FuseBoards x = new FuseBoards();
        x.save(0);
        Houses.letPass(x, 9999);
        x.save(1);
        x.restore(0);
        Due.is("23: the time 0", x.count(TIME), 0);
        Due.is("23: ticks pass again", x.pass(99), 0);
        x.restore(1);
        Due.is("23: the time 9999", x.count(TIME), 9999);
        Due.is("23: none passes", x.pass(1), NOT_POSSIBLE);
    }
}
