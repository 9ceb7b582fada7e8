import java.util.Random;

/** Random runs of calls, of which each answer has to be that of PlainModel. */
public final class AgainstModelTest {
    private static final int RUNS = 2500;
    private static final int LOOK_CALLS = 14 + 10 * (12 + 3) + 14;
    // An object has 512 calls; some of them are left for the look at its end.
    private static final int CALLS = 512 - LOOK_CALLS;
    private static final String[] NAMES = {"set", "board", "load", "turn", "fuse", "pass", "of", "ofLoad", "fed",
        "blown", "count", "next", "test", "unfair", "ifOpen", "put", "wipe", "fault", "carryOut", "undo", "save", "restore"};
    private static final int SET = 0, BOARD = 1, LOAD = 2, TURN = 3, FUSE = 4, PASS = 5, OF = 6, OF_LOAD = 7, FED = 8,
        BLOWN = 9, COUNT = 10, NEXT = 11, TEST = 12, UNFAIR = 13, IF_OPEN = 14, PUT = 15, WIPE = 16, FAULT = 17,
        CARRY_OUT = 18, UNDO = 19, SAVE = 20, RESTORE = 21;
    private static final int[] ODD = {-1, 10, 14, 101, 201, 9999, 10000, Integer.MIN_VALUE, Integer.MAX_VALUE};

    private final Random random;
    private final FuseBoards fuses = new FuseBoards();
    private final PlainModel model = new PlainModel();
    private final int mostly;
    private String text = "";

    private AgainstModelTest(long seed) {
        random = new Random(seed);
        mostly = anyOf(PASS, PASS, TURN, FUSE, PUT, PUT, UNDO, RESTORE, OF);
    }

    public static void main(String[] args) {
        for (int run = 0; run < RUNS; run++) {
            if (!new AgainstModelTest(run).agrees(run)) break;
        }
        Due.end();
    }

    private boolean agrees(int run) {
        for (int i = 0; i < CALLS; i++) {
            int method = pickMethod(i);
            int a = argument(method, 0), b = argument(method, 1), c = argument(method, 2);
            long characters = method == PUT ? someCharacters() : 0;
            int due = model.call(method, a, b, c, characters);
            int got = call(method, a, b, c, characters);
            Due.is("run " + run + ", call " + i + ": " + NAMES[method] + " of " + a + ", " + b + ", " + c + ", "
                + characters, got, due);
            if (got != due) return false;
        }
        return looksTheSame(run);
    }

    /** Building at first; then what the run is mostly about, and now and then anything. */
    private int pickMethod(int i) {
        int dice = random.nextInt(100);
        if (i < 60 && dice < 80) return new int[] {BOARD, LOAD, TURN, TURN}[random.nextInt(4)];
        if (!text.isEmpty() && dice < 80) return PUT;
        if (mostly == PUT && text.isEmpty() && dice < 50) return anyOf(PUT, FAULT, CARRY_OUT, CARRY_OUT, WIPE);
        if (mostly == UNDO && dice < 50) return anyOf(UNDO, UNDO, PASS, TURN, FUSE, LOAD, SET, CARRY_OUT);
        if (dice < 5) return anyOf(SET, BOARD, LOAD, FUSE, UNDO, SAVE, RESTORE);
        if (dice < 50) return mostly;
        if (dice < 62) return anyOf(PASS, TURN);
        if (dice < 95) return anyOf(OF, OF, OF_LOAD, FED, BLOWN, COUNT, NEXT, TEST, UNFAIR, IF_OPEN);
        return random.nextInt(NAMES.length);
    }

    private int anyOf(int... methods) {
        return methods[random.nextInt(methods.length)];
    }

    private int argument(int method, int place) {
        if (random.nextInt(60) == 0) return ODD[random.nextInt(ODD.length)];
        switch (method) {
            case SET: return place == 0 ? random.nextInt(3) : random.nextInt(random.nextInt(4) == 0 ? 52 : 10);
            case BOARD: case FUSE: return place == 0 ? someBoard() : place == 1 ? someRating() : random.nextInt(3);
            case LOAD: return place == 0 ? someBoard() : random.nextInt(random.nextInt(5) == 0 ? 202 : 40);
            case TURN: case OF_LOAD: return place == 0 ? random.nextInt(model.call(COUNT, 2, 0, 0, 0) + 1) : random.nextInt(4);
            case PASS: return random.nextInt(mostly == PASS ? 101 : 8);
            case OF: return place == 0 ? someBoard() : random.nextInt(12);
            case FED: case IF_OPEN: return someBoard();
            case BLOWN: return random.nextInt(9);
            case COUNT: return random.nextInt(14);
            case TEST: return place == 0 ? someBoard() : place == 2 ? random.nextInt(2)
                : random.nextInt(random.nextInt(3) == 0 ? 10001 : 300);
            case UNFAIR: return 1 + random.nextInt(21);
            default: return random.nextInt(2);
        }
    }

    private int someBoard() {
        int boards = model.call(COUNT, 1, 0, 0, 0);
        return random.nextInt(boards + (random.nextInt(20) == 0 || boards == 0 ? 1 : 0));
    }

    private int someRating() {
        return random.nextInt(anyOf(25, 60, 102));
    }

    private long someCharacters() {
        if (random.nextInt(40) == 0) return random.nextLong();
        if (text.isEmpty()) text = someText();
        int length = Math.min(text.length(), 1 + random.nextInt(8));
        long packed = 0;
        for (int i = 0; i < length; i++) packed = packed << 8 | text.charAt(i);
        text = text.substring(length);
        return packed;
    }

    private String someText() {
        StringBuilder made = new StringBuilder(random.nextInt(8) == 0 ? ";" : "");
        int orders = 1 + random.nextInt(7);
        for (int i = 0; i < orders; i++) made.append(i == 0 ? "" : ";").append(someOrder());
        if (random.nextInt(5) == 0) {
            made.setCharAt(random.nextInt(made.length()), "bslft.=;0129qo!~"
                .charAt(random.nextInt(16)));
        }
        return made.toString();
    }

    private String someOrder() {
        int digit = random.nextInt(5);
        int number = random.nextInt(random.nextInt(10) == 0 ? 1200 : 60);
        char kind = "qso".charAt(random.nextInt(3));
        switch (random.nextInt(5)) {
            case 0: return "b" + digit + "." + number + kind;
            case 1: return "l" + digit + "=" + number;
            case 2: return "s" + random.nextInt(8);
            case 3: return "f" + digit + "." + number + kind;
            default: return "t" + random.nextInt(20);
        }
    }

    private boolean looksTheSame(int run) {
        boolean same = true;
        for (int what = 0; what < 14; what++) same &= asked(run, COUNT, what, 0);
        for (int board = 0; board < 10; board++) {
            for (int what = 0; what < 12; what++) same &= asked(run, OF, board, what);
            same &= asked(run, FED, board, 0) & asked(run, BLOWN, board, 0) & asked(run, IF_OPEN, board, 0);
        }
        for (int load = 0; load < 14; load++) same &= asked(run, OF_LOAD, load, 3);
        return same;
    }

    private boolean asked(int run, int method, int a, int b) {
        int due = model.call(method, a, b, 0, 0);
        int got = call(method, a, b, 0, 0);
        Due.is("run " + run + ", at its end: " + NAMES[method] + " of " + a + ", " + b, got, due);
        return got == due;
    }

    private int call(int method, int a, int b, int c, long characters) {
        switch (method) {
            case SET: return fuses.set(a, b);
            case BOARD: return fuses.board(a, b, c);
            case LOAD: return fuses.load(a, b);
            case TURN: return fuses.turn(a);
            case FUSE: return fuses.fuse(a, b, c);
            case PASS: return fuses.pass(a);
            case OF: return fuses.of(a, b);
            case OF_LOAD: return fuses.ofLoad(a, b);
            case FED: return fuses.fed(a);
            case BLOWN: return fuses.blown(a);
            case COUNT: return fuses.count(a);
            case NEXT: return fuses.next(a);
            case TEST: return fuses.test(a, b, c);
            case UNFAIR: return fuses.unfair(a);
            case IF_OPEN: return fuses.ifOpen(a);
            case PUT: return fuses.put(characters);
            case WIPE: return fuses.wipe();
            case FAULT: return fuses.fault();
            case CARRY_OUT: return fuses.carryOut();
            case UNDO: return fuses.undo();
            case SAVE: return fuses.save(a);
            default: return fuses.restore(a);
        }
    }
}
