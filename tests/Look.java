/** What an object answers, as a text, so that two objects can be compared; sparing with the calls that an object has. */
final class Look implements Codes {
    private static final int TICKS = 10;

    private final FuseBoards x;
    private final StringBuilder seen = new StringBuilder();

    private Look(FuseBoards x) {
        this.x = x;
    }

    /** All that can be asked without a change. */
    static String at(FuseBoards x) {
        return x.fault() + " " + x.count(PAD) + " " + x.count(UNDOABLE) + " " + state(x);
    }

    /** All that can be asked about what undo and saving bring back. */
    static String state(FuseBoards x) {
        Look look = new Look(x);
        for (int what = TIME; what < PAD; what++) look.note(x.count(what));
        look.noteBoards();
        look.noteLoads();
        for (int rank = 0; rank <= 8; rank++) look.note(x.blown(rank));
        look.note(x.next(IN_TICKS));
        look.note(x.next(ITS_BOARD));
        look.note(x.unfair(2));
        look.note(x.unfair(20));
        return look.seen.toString();
    }

    /** What is in the history, in the slots and in the pad; the object is another one by that. */
    static String back(FuseBoards x) {
        Look look = new Look(x);
        for (int states = 0; states < 7; states++) {
            look.note(x.undo());
            look.noteCounts();
            look.noteBoards(HEAT);
        }
        for (int slot = 0; slot < 2; slot++) {
            look.note(x.restore(slot));
            look.noteCounts();
            look.noteBoards(HEAT);
        }
        look.note(x.carryOut());
        look.noteCounts();
        look.noteBoards(HEAT);
        return look.seen.toString();
    }

    /** What becomes of it in the next ticks, by which also shows what is never told; the object is another one by that. */
    static String onwards(FuseBoards x) {
        Look look = new Look(x);
        for (int ticks = 0; ticks < TICKS; ticks++) {
            look.note(x.pass(1));
            look.noteBoards(HEAT);
            look.noteBoards(STEPS);
        }
        look.noteCounts();
        return look.seen.toString();
    }

    private void note(int answer) {
        seen.append(answer).append(' ');
    }

    private void noteCounts() {
        for (int what = TIME; what <= UNDOABLE; what++) note(x.count(what));
    }

    private void noteBoards(int what) {
        int boards = x.count(BOARDS);
        for (int b = 0; b < boards; b++) note(x.of(b, what));
    }

    private void noteBoards() {
        for (int what = FROM; what <= BLEW_HERE; what++) noteBoards(what);
        int boards = x.count(BOARDS);
        for (int b = 0; b < boards; b++) {
            note(x.fed(b));
            note(x.ifOpen(b));
        }
    }

    private void noteLoads() {
        int loads = x.count(LOADS);
        for (int i = 0; i < loads; i++) {
            for (int what = 0; what <= WORKS; what++) note(x.ofLoad(i, what));
        }
    }
}
