import java.util.List;

/** What the document names as an edge in 'Texts' and in the promises 17 to 20, each in a test of its own. */
public final class EdgesOfTextsTest implements Codes {
    private static final int LEAST_CODE = 33, MOST_CODE = 126;

    public static void main(String[] args) {
        putOf1To8Characters();
        putOfNoCharacter();
        codesAre33To126();
        codesAtEachPlace();
        zeroEndsTheCharacters();
        nothingStandsAboveTheZero();
        padTakes80Characters();
        errorsOfPutInTheirOrder();
        putsStandOneBehindTheOther();
        putIsNoChange();
        wipeOfAnEmptyPad();
        wipeOfAFullPad();
        wipeIsNoChange();
        faultOfAnEmptyPad();
        eachCharacterAtEachPlace();
        numbersAre0To999();
        numbersHaveNoLeadingZeros();
        digitsAreOne();
        kindsAreThree();
        ordersAreParted();
        textEndsTooEarly();
        faultInAFullPad();
        faultIsTheFirstOne();
        faultIsAskedAnew();
        carryOutOfAFaultyPad();
        carryOutOfAFullPad();
        carryOutOfEachOrder();
        carryOutOfEachKind();
        carryOutEmptiesThePad();
        carryOutStopsAtTheFirstError();
        carryOutOfNone();
        carryOutOfEachErrorOfAnOrder();
        carryOutOfTheLastValuesThatAreAllowed();
        carryOutOfTheFirstBoardFromWhatever();
        carryOutUpToTenBoardsAndFourteenLoads();
        carryOutUpToTheTime9999();
        carryOutIsOneChange();
        carryOutInAFullHistory();
        Due.end();
    }

    // ---- promise 17

    private static void putOf1To8Characters() {
        for (int length = 1; length <= 8; length++) {
            FuseBoards x = new FuseBoards();
            Due.is("17: characters", x.put(Houses.packed("!~Az09;=".substring(0, length))), length);
            Due.is("17: length", x.count(PAD), length);
        }
    }

    private static void putOfNoCharacter() {
        for (Refused.House house : new Refused.House[] {FuseBoards::new, Houses::busy, Houses::full}) {
            Refused.is("17: no character", house, "put of 0", BAD_VALUE, x -> x.put(0));
        }
    }

    private static void codesAre33To126() {
        for (int code = 0; code < 256; code++) {
            boolean taken = code >= LEAST_CODE && code <= MOST_CODE;
            Due.is("17: code " + code, new FuseBoards().put(code), taken ? 1 : BAD_VALUE);
        }
        Refused busy = new Refused("17: codes", Houses::busy);
        for (long code : new long[] {1, 32, 127, 128, 255}) busy.is("" + code, BAD_VALUE, x -> x.put(code));
    }

    private static void codesAtEachPlace() {
        for (int length = 1; length <= 8; length++) {
            for (int place = 0; place < length; place++) {
                for (int code : new int[] {1, 31, 32, 33, 126, 127, 128, 129, 160, 255}) {
                    char[] text = "abcdefgh".substring(0, length).toCharArray();
                    text[place] = (char) code;
                    boolean taken = code >= LEAST_CODE && code <= MOST_CODE;
                    Due.is("17: code " + code + " at " + place + " of " + length,
                        new FuseBoards().put(Houses.packed(new String(text))), taken ? length : BAD_VALUE);
                }
            }
        }
    }

    private static void zeroEndsTheCharacters() {
        for (int length = 2; length <= 8; length++) {
            for (int place = 0; place < length; place++) {
                char[] text = "abcdefgh".substring(0, length).toCharArray();
                text[place] = 0;
                Due.is("17: a zero at " + place + " of " + length, new FuseBoards().put(Houses.packed(new String(text))),
                    place == 0 ? length - 1 : BAD_VALUE);
            }
        }
    }

    private static void nothingStandsAboveTheZero() {
        for (int length = 0; length < 8; length++) {
            long text = Houses.packed("abcdefgh".substring(0, length));
            for (int bit = 8 * (length + 1); bit < 64; bit++) {
                Due.is("17: the bit " + bit + " above " + length, new FuseBoards().put(text | 1L << bit), BAD_VALUE);
            }
        }
        Refused full = new Refused("17: above the zero", Houses::busy);
        for (long bad : new long[] {1L << 63 | 'a', Long.MIN_VALUE, 0x6100L, 0x610061L, -1L << 16}) {
            full.is("" + bad, BAD_VALUE, x -> x.put(bad));
        }
    }

    private static void padTakes80Characters() {
        for (int length = 1; length <= 8; length++) {
            long text = Houses.packed("abcdefgh".substring(0, length));
            FuseBoards x = Houses.typed(Houses.textOf(80 - length));
            Due.is("17: up to 80", x.put(text), 80);
            Due.is("17: so many", x.count(PAD), 80);
            int before = 81 - length;
            Refused.is("17: 81", () -> Houses.typed(Houses.textOf(before)), length + " more", TOO_MANY, y -> y.put(text));
            Refused.is("17: 80", Houses::full, length + " more", TOO_MANY, y -> y.put(text));
        }
        FuseBoards x = Houses.typed(Houses.textOf(79));
        Due.is("17: two more", x.put(Houses.packed("ab")), TOO_MANY);
        Due.is("17: one more", x.put('a'), 80);
        Due.is("17: none more", x.put('a'), TOO_MANY);
        x.wipe();
        Due.is("17: room again", x.put('a'), 1);
    }

    private static void errorsOfPutInTheirOrder() {
        Refused full = new Refused("17: a full pad", Houses::full);
        for (long bad : new long[] {0, 32, 127, 1L << 63 | 'a'}) full.is("put of " + bad, BAD_VALUE, x -> x.put(bad));
        full.is("put of a", TOO_MANY, x -> x.put('a'));
    }

    private static void putsStandOneBehindTheOther() {
        FuseBoards x = new FuseBoards();
        String text = "t12;t34;t99";
        for (int i = 0; i < text.length(); i++) Due.is("17: one by one", x.put(text.charAt(i)), i + 1);
        Due.is("17: carried out", x.carryOut(), 3);
        Due.is("17: in their order", x.count(TIME), 12 + 34 + 99);
    }

    private static void putIsNoChange() {
        FuseBoards x = Houses.busy();
        String before = Look.at(x);
        x.put('a');
        Due.is("17: not recorded", x.count(UNDOABLE), 6);
        x.wipe();
        Houses.type(x, "t2;s4;t1");
        Due.same("17: nothing else", Look.at(x), before);
    }

    // ---- promise 18

    private static void wipeOfAnEmptyPad() {
        FuseBoards x = new FuseBoards();
        Due.is("18: empty", x.wipe(), 0);
        Due.is("18: still", x.wipe(), 0);
        Due.is("18: the length", x.count(PAD), 0);
        Due.is("18: the fault", x.fault(), 0);
    }

    private static void wipeOfAFullPad() {
        FuseBoards x = Houses.full();
        Due.is("18: 80", x.wipe(), 80);
        Due.is("18: the length", x.count(PAD), 0);
        Due.is("18: the fault", x.fault(), 0);
        Due.is("18: nothing is left", x.wipe(), 0);
        Houses.type(x, Houses.textOf(80));
        Due.is("18: room for 80", x.count(PAD), 80);
    }

    private static void wipeIsNoChange() {
        FuseBoards x = Houses.busy();
        String back = Look.back(Houses.busy());
        x.wipe();
        Due.is("18: not recorded", x.count(UNDOABLE), 6);
        Houses.type(x, "t2;s4;t1");
        Due.same("18: nothing else", Look.back(x), back);
    }

    // ---- promise 19

    private static void faultOfAnEmptyPad() {
        Due.is("19: it ends too early", new FuseBoards().fault(), 0);
    }

    /** Asks about a text with each character behind it: those that can stand there, and all the others. */
    private static void standsBehind(String text, String allowed, boolean ends) {
        for (char code = LEAST_CODE; code <= MOST_CODE; code++) {
            int fault = Houses.typed(text + code).fault();
            if (allowed.indexOf(code) < 0) Due.is("19: " + text + " then " + code, fault, text.length());
            else Due.isTrue("19: " + text + " then " + code + " may stand", fault == NONE || fault == text.length() + 1);
        }
        if (!text.isEmpty()) Due.is("19: " + text, Houses.typed(text).fault(), ends ? NONE : text.length());
    }

    private static void eachCharacterAtEachPlace() {
        String digits = "0123456789", orders = "blsft", kinds = "qso";
        standsBehind("", orders, false);
        for (String letter : new String[] {"b", "f"}) {
            standsBehind(letter, digits, false);
            for (char digit = '0'; digit <= '9'; digit++) standsBehind(letter + digit, ".", false);
            String start = letter + "7.";
            standsBehind(start, digits, false);
            for (String number : new String[] {"1", "9", "10", "99"}) standsBehind(start + number, digits + kinds, false);
            for (String number : new String[] {"0", "100", "999"}) standsBehind(start + number, kinds, false);
            for (String kind : kinds.split("")) standsBehind(start + "16" + kind, ";", true);
            standsBehind(start + "16q;", orders, false);
        }
        standsBehind("l", digits, false);
        for (char digit = '0'; digit <= '9'; digit++) standsBehind("l" + digit, "=", false);
        standsBehind("l7=", digits, false);
        standsBehind("s", digits, false);
        standsBehind("t", digits, false);
        for (String start : new String[] {"l7=", "s", "t"}) {
            for (String number : new String[] {"1", "9", "10", "99"}) standsBehind(start + number, digits + ";", true);
            for (String number : new String[] {"0", "100", "999"}) standsBehind(start + number, ";", true);
            standsBehind(start + "0;", orders, false);
        }
    }

    private static void numbersAre0To999() {
        for (String order : new String[] {"s#", "t#", "l0=#", "b0.#q", "f0.#q"}) {
            for (int number = 0; number <= 1000; number++) {
                String text = order.replace("#", "" + number);
                int due = number > 999 ? order.indexOf('#') + 3 : NONE;
                Due.is("19: " + text, Houses.typed(text).fault(), due);
            }
            for (String number : new String[] {"1001", "9990", "9999", "99999", "1000000000000000000000"}) {
                String text = order.replace("#", number);
                Due.is("19: " + text, Houses.typed(text).fault(), order.indexOf('#') + 3);
            }
        }
    }

    private static void numbersHaveNoLeadingZeros() {
        for (String order : new String[] {"s#", "t#", "l0=#", "b0.#q", "f0.#q"}) {
            for (String number : new String[] {"00", "01", "09", "000", "001", "010"}) {
                String text = order.replace("#", number);
                Due.is("19: " + text, Houses.typed(text).fault(), order.indexOf('#') + 1);
            }
            for (String number : new String[] {"0", "10", "100", "900"}) {
                Due.is("19: zeros that don't lead", Houses.typed(order.replace("#", number)).fault(), NONE);
            }
        }
    }

    private static void digitsAreOne() {
        for (int digit = 0; digit <= 9; digit++) {
            Due.is("19: b", Houses.typed("b" + digit + ".5q").fault(), NONE);
            Due.is("19: l", Houses.typed("l" + digit + "=5").fault(), NONE);
            Due.is("19: f", Houses.typed("f" + digit + ".5q").fault(), NONE);
        }
        for (String text : new String[] {"b10.5q", "l10=5", "f10.5q", "b00.5q", "l00=5", "f00.5q"}) {
            Due.is("19: " + text, Houses.typed(text).fault(), 2);
        }
        for (String text : new String[] {"b.5q", "l=5", "f.5q"}) Due.is("19: " + text, Houses.typed(text).fault(), 1);
    }

    private static void kindsAreThree() {
        for (String order : new String[] {"b0.5", "f0.5"}) {
            for (String kind : new String[] {"q", "s", "o"}) Due.is("19: kind", Houses.typed(order + kind).fault(), NONE);
            for (String kind : new String[] {"Q", "S", "O", "0", ";", "p", "r", "t", "b"}) {
                Due.is("19: " + order + kind, Houses.typed(order + kind).fault(), kind.equals("0") ? 5 : 4);
            }
            Due.is("19: two kinds", Houses.typed(order + "qs").fault(), 5);
        }
    }

    private static void ordersAreParted() {
        Due.is("19: two", Houses.typed("t1;t2").fault(), NONE);
        Due.is("19: of each", Houses.typed("b0.5q;l0=5;s0;f0.9o;t1").fault(), NONE);
        Due.is("19: not parted", Houses.typed("t1t2").fault(), 2);
        Due.is("19: parted twice", Houses.typed("t1;;t2").fault(), 3);
        Due.is("19: parted by another sign", Houses.typed("t1:t2").fault(), 2);
        Due.is("19: parted ahead of all", Houses.typed(";t1").fault(), 0);
    }

    private static void textEndsTooEarly() {
        String text = "b0.16q;l1=12;s3;f1.9o;t10";
        String ends = "b0.16q|b0.16q;l1=1|b0.16q;l1=12|b0.16q;l1=12;s3|b0.16q;l1=12;s3;f1.9o|"
            + "b0.16q;l1=12;s3;f1.9o;t1|b0.16q;l1=12;s3;f1.9o;t10";
        for (int length = 1; length <= text.length(); length++) {
            String start = text.substring(0, length);
            boolean whole = List.of(ends.split("\\|")).contains(start);
            Due.is("19: " + start, Houses.typed(start).fault(), whole ? NONE : length);
        }
    }

    private static void faultInAFullPad() {
        Due.is("19: 80 without a fault", Houses.typed(Houses.textOf(80)).fault(), NONE);
        Due.is("19: 79 without a fault", Houses.typed(Houses.textOf(79)).fault(), NONE);
        Due.is("19: 80, and too early", Houses.typed(Houses.textOf(79) + ";").fault(), 80);
        Due.is("19: 80, and too early in an order", Houses.typed(Houses.textOf(78) + ";t").fault(), 80);
        Due.is("19: 80, the last one cannot stand", Houses.typed(Houses.textOf(79) + "x").fault(), 79);
        Due.is("19: 80, the last but one", Houses.typed(Houses.textOf(78) + "x1").fault(), 78);
        Due.is("19: 80, the first one", Houses.typed("x" + Houses.textOf(79)).fault(), 0);
        Due.is("19: 80 digits", Houses.typed("t" + "1".repeat(79)).fault(), 4);
    }

    private static void faultIsTheFirstOne() {
        Due.is("19: of two faults", Houses.typed("t1;x;y").fault(), 3);
        Due.is("19: ahead of the end too early", Houses.typed("t01;").fault(), 2);
        Due.is("19: read from the left", Houses.typed("l0.5;b0=5q").fault(), 2);
    }

    private static void faultIsAskedAnew() {
        FuseBoards x = Houses.typed("t1");
        Due.is("19: none", x.fault(), NONE);
        x.put(';');
        Due.is("19: too early", x.fault(), 3);
        Due.is("19: the same", x.fault(), 3);
        x.put('t');
        Due.is("19: further", x.fault(), 4);
        x.put('0');
        Due.is("19: none again", x.fault(), NONE);
        x.put('0');
        Due.is("19: a zero too many", x.fault(), 5);
        x.wipe();
        Due.is("19: empty", x.fault(), 0);
        Houses.type(x, "s5");
        Due.is("19: a shorter one then", x.fault(), NONE);
        Due.is("19: the pad stays", x.count(PAD), 2);
    }

    // ---- promise 20

    private static FuseBoards busyWith(String text) {
        FuseBoards x = Houses.busy();
        x.wipe();
        Houses.type(x, text);
        return x;
    }

    private static void carryOutOfAFaultyPad() {
        Refused.is("20: empty", FuseBoards::new, "carryOut", BAD_TEXT, FuseBoards::carryOut);
        Refused.is("20: empty", () -> busyWith(""), "carryOut", BAD_TEXT, FuseBoards::carryOut);
        for (String text : new String[] {"x", "t1;", "t1;t", "t1;t02", "s0;b0.5q;l0=1000", Houses.textOf(79) + ";"}) {
            Refused.is("20: " + text, () -> busyWith(text), "carryOut", BAD_TEXT, FuseBoards::carryOut);
        }
        FuseBoards x = busyWith("t1;");
        x.carryOut();
        Due.is("20: the pad stays", x.count(PAD), 3);
        Due.is("20: none recorded", x.count(UNDOABLE), 6);
        x.put(Houses.packed("t2"));
        Due.is("20: and can be mended", x.carryOut(), 2);
    }

    private static void carryOutOfAFullPad() {
        FuseBoards x = Houses.lone(100, SLOW, 7);
        x.load(0, 3);
        Houses.type(x, Houses.textOf(80));
        Due.is("20: 27 orders of 80 characters", x.carryOut(), 27);
        Due.is("20: on by an odd number", x.ofLoad(1, IS_ON), 1);
        FuseBoards y = Houses.typed("t99;t99;t99;t99;t99;t99;t99;t99;t99;t99;t99;t99;t99;t99;t99;t99;t99;t99;t99;t999");
        Due.is("20: 80 characters", y.count(PAD), 80);
        Due.is("20: the last order fails", y.carryOut(), 19);
        Due.is("20: the time", y.count(TIME), 19 * 99);
    }

    private static void carryOutOfEachOrder() {
        FuseBoards x = new FuseBoards();
        String[] orders = {"b0.40q", "b0.30s", "b1.20o", "l2=200", "s0", "f2.9s", "t1"};
        for (String order : orders) {
            Houses.type(x, order);
            Due.is("20: " + order, x.carryOut(), 1);
        }
        int[][] boards = {{NONE, 40, QUICK}, {0, 30, SLOW}, {1, 9, SLOW}};
        for (int b = 0; b < 3; b++) {
            for (int what = FROM; what <= KIND; what++) Due.is("20: of", x.of(b, what), boards[b][what]);
        }
        Due.is("20: the load's board", x.ofLoad(0, 0), 2);
        Due.is("20: the load's current", x.ofLoad(0, 1), 200);
        Due.is("20: the load is on", x.ofLoad(0, IS_ON), 1);
        Due.is("20: the time", x.count(TIME), 1);
        Due.is("20: it blew", x.blown(0), 2);
        Houses.type(x, "s0");
        x.carryOut();
        Due.is("20: the load is off", x.ofLoad(0, IS_ON), 0);
    }

    private static void carryOutOfEachKind() {
        for (int kind = QUICK; kind <= OLD; kind++) {
            char sign = "qso".charAt(kind);
            FuseBoards x = Houses.typed("b0.5" + sign);
            x.carryOut();
            Due.is("20: a board's fuse of kind " + sign, x.of(0, KIND), kind);
            FuseBoards y = Houses.typed("b0.5" + "soq".charAt(kind) + ";f0.5" + sign);
            Due.is("20: both", y.carryOut(), 2);
            Due.is("20: a new fuse of kind " + sign, y.of(0, KIND), kind);
        }
    }

    private static void carryOutEmptiesThePad() {
        for (String text : new String[] {"t1", "t1;s99", "s99", "t0;t1"}) {
            FuseBoards x = Houses.typed(text);
            x.carryOut();
            Due.is("20: empty after " + text, x.count(PAD), 0);
            Due.is("20: nothing to carry out", x.carryOut(), BAD_TEXT);
            Due.is("20: nothing to wipe", x.wipe(), 0);
            Due.is("20: begins anew", x.put('t'), 1);
        }
    }

    private static void carryOutStopsAtTheFirstError() {
        String[] orders = {"t1", "t2", "t4", "t8", "t16"};
        for (int failing = 0; failing < orders.length; failing++) {
            StringBuilder text = new StringBuilder();
            for (int i = 0; i < orders.length; i++) text.append(i == 0 ? "" : ";").append(i == failing ? "t0" : orders[i]);
            FuseBoards x = Houses.typed(text.toString());
            Due.is("20: carried out of " + text, x.carryOut(), failing);
            Due.is("20: nothing behind it in " + text, x.count(TIME), (1 << failing) - 1);
        }
    }

    private static void carryOutOfNone() {
        FuseBoards x = Houses.typed("t0;t1");
        Due.is("20: none", x.carryOut(), 0);
        Due.is("20: recorded", x.count(UNDOABLE), 1);
        Due.is("20: nothing passed", x.count(TIME), 0);
        Due.is("20: undone", x.undo(), 0);
    }

    private static void carryOutOfEachErrorOfAnOrder() {
        String[] texts = {"b5.9q", "b9.9q", "b0.0q", "b0.101q", "b0.999o", "l5=9", "l9=9", "l0=0", "l0=201", "l0=999", "s5",
            "s14", "s32", "s999", "f5.9q", "f9.9q", "f0.0q", "f0.101s", "f2.9q", "t0", "t100", "t999"};
        String before = Look.onwards(Houses.busy());
        for (String text : texts) {
            FuseBoards x = busyWith(text + ";t1");
            Due.is("20: none of " + text, x.carryOut(), 0);
            Houses.type(x, "t2;s4;t1");
            Due.same("20: nothing by " + text, Look.onwards(x), before);
        }
    }

    private static void carryOutOfTheLastValuesThatAreAllowed() {
        String[] texts = {"b4.1q", "b0.100o", "l4=1", "l0=200", "s4", "s0", "f4.1q", "f0.100s", "t1", "t99"};
        for (String text : texts) Due.is("20: " + text, busyWith(text).carryOut(), 1);
    }

    private static void carryOutOfTheFirstBoardFromWhatever() {
        for (int from = 0; from <= 9; from++) {
            FuseBoards x = Houses.typed("b" + from + ".5q;b0.6q;b" + Math.min(2, from) + ".7q");
            Due.is("20: from " + from, x.carryOut(), from >= 2 ? 2 : 3);
            Due.is("20: from outside", x.of(0, FROM), NONE);
        }
    }

    private static void carryOutUpToTenBoardsAndFourteenLoads() {
        FuseBoards x = Houses.typed("b0.1q;b0.1q;b0.1q;b0.1q;b0.1q;b0.1q;b0.1q;b0.1q;b0.1q;b9.1q;b8.1q;t1");
        Due.is("20: nine, as 9 is no board yet", x.carryOut(), 9);
        Houses.type(x, "b8.1q;b9.1q;t1");
        Due.is("20: the tenth", x.carryOut(), 1);
        Due.is("20: ten boards", x.count(BOARDS), 10);
        Due.is("20: no tick", x.count(TIME), 0);
        Houses.type(x, "l9=1;l9=1;l9=1;l9=1;l9=1;l9=1;l9=1;l9=1;l9=1;l9=1;l9=1;l9=1;l9=1;l9=1;l9=1;t1");
        Due.is("20: fourteen loads", x.carryOut(), 14);
        Due.is("20: are there", x.count(LOADS), 14);
        Due.is("20: no tick again", x.count(TIME), 0);
    }

    private static void carryOutUpToTheTime9999() {
        FuseBoards x = new FuseBoards();
        Houses.letPass(x, 9990);
        Houses.type(x, "t9;t1");
        Due.is("20: up to 9999", x.carryOut(), 1);
        Due.is("20: the time", x.count(TIME), 9999);
        Houses.type(x, "t1");
        Due.is("20: no more", x.carryOut(), 0);
        x.undo();
        x.undo();
        Houses.type(x, "t10");
        Due.is("20: above", x.carryOut(), 0);
        Due.is("20: nothing passed", x.count(TIME), 9990);
    }

    private static void carryOutIsOneChange() {
        FuseBoards x = Houses.typed("b0.5q;b0.5q;l1=5;s0;t9");
        Due.is("20: five orders", x.carryOut(), 5);
        Due.is("20: one change", x.count(UNDOABLE), 1);
        Due.is("20: undone", x.undo(), 0);
        Due.is("20: all of it", x.count(BOARDS) + x.count(LOADS) + x.count(TIME), 0);
        Due.is("20: the pad stays empty", x.count(PAD), 0);
    }

    private static void carryOutInAFullHistory() {
        FuseBoards x = new FuseBoards();
        for (int i = 0; i < 6; i++) x.pass(1);
        Houses.type(x, "t10;t10;t10;t10;t10;t10;t10");
        Due.is("20: seven orders", x.carryOut(), 7);
        Due.is("20: six states", x.count(UNDOABLE), 6);
        int[] times = {6, 5, 4, 3, 2, 1};
        for (int i = 0; i < 6; i++) {
            Due.is("20: undone", x.undo(), 5 - i);
            Due.is("20: the time", x.count(TIME), times[i]);
        }
        Due.is("20: the oldest was dropped", x.undo(), NOT_POSSIBLE);
    }
}
