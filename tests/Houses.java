/** Houses that the tests begin with, and texts as put() takes them. */
final class Houses implements Codes {
    private Houses() {
    }

    static long packed(String text) {
        long packed = 0;
        for (int i = 0; i < text.length(); i++) packed = packed << 8 | text.charAt(i);
        return packed;
    }

    static void type(FuseBoards x, String text) {
        for (int from = 0; from < text.length(); from += 8) {
            String piece = text.substring(from, Math.min(text.length(), from + 8));
            Due.isTrue("put of " + piece, x.put(packed(piece)) > 0);
        }
    }

    static FuseBoards typed(String text) {
        FuseBoards x = new FuseBoards();
        type(x, text);
        return x;
    }

    /** A text of just so many characters that has no fault: orders that turn loads on or off. */
    static String textOf(int length) {
        StringBuilder made = new StringBuilder("s1");
        while (made.length() + 3 <= length) made.append(";s1");
        while (made.length() < length) made.append('0');
        return made.toString();
    }

    /** A board with one load that is on: the plainest house in which something heats up. */
    static FuseBoards lone(int rating, int kind, int current) {
        return last(0, rating, kind, current);
    }

    /** The same, but behind so many boards in a row that bear much. */
    static FuseBoards last(int board, int rating, int kind, int current) {
        FuseBoards x = inARow(board, 100, SLOW);
        x.board(board - 1, rating, kind);
        lit(x, board, current);
        return x;
    }

    /** Boards that are all fed from the one before. */
    static FuseBoards inARow(int boards, int rating, int kind) {
        FuseBoards x = new FuseBoards();
        for (int b = 0; b < boards; b++) x.board(b - 1, rating, kind);
        return x;
    }

    /** Puts a load at a board and turns it on. */
    static int lit(FuseBoards x, int board, int current) {
        int load = x.load(board, current);
        Due.is("the load is on", x.turn(load), 1);
        return load;
    }

    static void letPass(FuseBoards x, int ticks) {
        for (int left = ticks; left > 0; left -= 99) x.pass(Math.min(99, left));
    }

    /** Fuses that are whole and hot, crept, burning and open; a full history, one slot, and a text in the pad. */
    static FuseBoards busy() {
        FuseBoards x = new FuseBoards();
        x.set(ARC, 4);
        x.board(0, 60, SLOW);
        x.board(0, 30, OLD);
        x.board(1, 5, QUICK);
        x.board(0, 2, QUICK);
        x.board(1, 20, OLD);
        lit(x, 3, 40);
        x.pass(6);
        x.save(0);
        lit(x, 2, 9);
        lit(x, 4, 22);
        x.pass(4);
        x.load(1, 7);
        x.set(COOL, 3);
        x.pass(1);
        x.turn(3);
        x.load(0, 3);
        x.set(AGE, 12);
        type(x, "t2;s4;t1");
        return x;
    }

    /** All that there can be of everything: boards, loads, time, blown fuses, states, slots, a pad of 80 characters. */
    static FuseBoards full() {
        FuseBoards x = new FuseBoards();
        x.set(ARC, 3);
        x.board(0, 100, SLOW);
        for (int b = 1; b < 10; b++) x.board(0, b, QUICK);
        for (int i = 0; i < 14; i++) x.load(i % 10, 30 + i);
        for (int i = 1; i < 10; i++) x.turn(i);
        x.pass(1);
        x.save(0);
        letPass(x, 9900);
        x.fuse(9, 100, OLD);
        x.pass(90);
        x.save(1);
        x.turn(11);
        x.set(ARC, 2);
        x.fuse(1, 1, QUICK);
        x.pass(6);
        x.turn(9);
        x.pass(2);
        type(x, textOf(80));
        return x;
    }
}
