import java.util.ArrayDeque;
import java.util.ArrayList;
import java.util.Arrays;
import java.util.Deque;
import java.util.List;
import java.util.regex.Matcher;
import java.util.regex.Pattern;

/** The document once more, written in another way: objects, recursion, regular expressions. */
final class PlainModel {
    private static final int NO_SUCH = -1, BAD_VALUE = -2, BAD_TEXT = -3, TOO_MANY = -4, NOT_POSSIBLE = -5, NONE = -6;

    private static final class Board {
        Board from;
        int number;
        int rating;
        int kind;
        int heat;
        int age;
        int crept;
        int arc;
        boolean open;
        int blows;

        Board copy(List<Board> into) {
            Board b = new Board();
            b.from = from == null ? null : into.get(from.number);
            b.number = number;
            b.rating = rating;
            b.kind = kind;
            b.heat = heat;
            b.age = age;
            b.crept = crept;
            b.arc = arc;
            b.open = open;
            b.blows = blows;
            return b;
        }

        boolean whole() {
            return !open && arc == 0;
        }

        boolean dead() {
            return open || from != null && from.dead();
        }

        boolean fedThrough(Board other) {
            return this == other || from != null && from.fedThrough(other);
        }

        int melting() {
            int f = new int[] {8, 40, 20}[kind];
            return Math.max(1, rating * rating * f - 20 * rating * age);
        }

        int depth() {
            return from == null ? 0 : 1 + from.depth();
        }

        void renew(int newRating, int newKind) {
            rating = newRating;
            kind = newKind;
            heat = 0;
            age = 0;
            crept = 0;
            arc = 0;
            open = false;
        }
    }

    private static final class Load {
        Board at;
        int current;
        boolean on;
    }

    private static final class State {
        final int[] settings = {1, 2, 10};
        final List<Board> boards = new ArrayList<>();
        final List<Load> loads = new ArrayList<>();
        final List<Integer> blown = new ArrayList<>();
        int time;

        State copy() {
            State s = new State();
            System.arraycopy(settings, 0, s.settings, 0, 3);
            for (Board b : boards) s.boards.add(b.copy(s.boards));
            for (Load l : loads) {
                Load c = new Load();
                c.at = s.boards.get(l.at.number);
                c.current = l.current;
                c.on = l.on;
                s.loads.add(c);
            }
            s.blown.addAll(blown);
            s.time = time;
            return s;
        }

        int current(Board b) {
            if (b.dead()) return 0;
            int sum = 0;
            for (Load l : loads) {
                if (l.on && !l.at.dead() && l.at.fedThrough(b)) sum += l.current;
            }
            return sum;
        }

        List<Board> tick() {
            int[] c = new int[boards.size()];
            for (Board b : boards) c[b.number] = current(b);
            for (Board b : boards) {
                if (b.arc > 0 && --b.arc == 0) b.open = true;
            }
            for (Board b : boards) {
                if (!b.whole()) continue;
                int now = c[b.number];
                if (now > b.rating) b.heat = Math.min(1000000, b.heat + now * now - b.rating * b.rating);
                else b.heat = Math.max(0, b.heat - (b.rating * b.rating - now * now) / settings[1]);
                if (b.kind == 2 && 2 * now > b.rating && ++b.crept >= settings[2]) {
                    b.age++;
                    b.crept = 0;
                }
            }
            List<Board> hot = new ArrayList<>();
            for (Board b : boards) {
                if (b.whole() && b.heat >= b.melting()) hot.add(b);
            }
            List<Board> blowing = new ArrayList<>();
            for (int i = boards.size() - 1; i >= 0; i--) {
                Board b = boards.get(i);
                if (hot.contains(b) && blowing.stream().noneMatch(x -> x.fedThrough(b))) blowing.add(0, b);
            }
            for (Board b : blowing) {
                b.arc = settings[0];
                b.open = b.arc == 0;
                b.blows++;
                blown.add(b.number);
            }
            time++;
            return blowing;
        }
    }

    private State now = new State();
    private final Deque<State> history = new ArrayDeque<>();
    private final State[] slots = new State[2];
    private String pad = "";

    private void record(State before) {
        history.addLast(before);
        if (history.size() > 6) history.removeFirst();
    }

    private int change(int[] order) {
        State before = now.copy();
        int answer = act(order);
        if (answer >= 0) record(before);
        return answer;
    }

    private int act(int... o) {
        switch (o[0]) {
            case 0:
                if (o[1] < 0 || o[1] > 2) return BAD_VALUE;
                int[][] ranges = {{0, 9}, {1, 9}, {1, 50}};
                if (o[2] < ranges[o[1]][0] || o[2] > ranges[o[1]][1]) return BAD_VALUE;
                int was = now.settings[o[1]];
                now.settings[o[1]] = o[2];
                return was;
            case 1:
                if (!now.boards.isEmpty() && noBoard(o[1])) return NO_SUCH;
                if (o[2] < 1 || o[2] > 100 || o[3] < 0 || o[3] > 2) return BAD_VALUE;
                if (now.boards.size() == 10) return TOO_MANY;
                Board b = new Board();
                b.number = now.boards.size();
                b.from = b.number == 0 ? null : now.boards.get(o[1]);
                b.renew(o[2], o[3]);
                now.boards.add(b);
                return b.number;
            case 2:
                if (noBoard(o[1])) return NO_SUCH;
                if (o[2] < 1 || o[2] > 200) return BAD_VALUE;
                if (now.loads.size() == 14) return TOO_MANY;
                Load l = new Load();
                l.at = now.boards.get(o[1]);
                l.current = o[2];
                now.loads.add(l);
                return now.loads.size() - 1;
            case 3:
                if (noLoad(o[1])) return NO_SUCH;
                Load turned = now.loads.get(o[1]);
                turned.on = !turned.on;
                return turned.on ? 1 : 0;
            case 4:
                if (noBoard(o[1])) return NO_SUCH;
                if (o[2] < 1 || o[2] > 100 || o[3] < 0 || o[3] > 2) return BAD_VALUE;
                Board changed = now.boards.get(o[1]);
                if (changed.arc > 0) return NOT_POSSIBLE;
                int rating = changed.rating;
                changed.renew(o[2], o[3]);
                return rating;
            default:
                if (o[1] < 1 || o[1] > 99) return BAD_VALUE;
                if (now.time + o[1] > 9999) return NOT_POSSIBLE;
                int blows = 0;
                for (int i = 0; i < o[1]; i++) blows += now.tick().size();
                return blows;
        }
    }

    private boolean noBoard(int board) {
        return board < 0 || board >= now.boards.size();
    }

    private boolean noLoad(int load) {
        return load < 0 || load >= now.loads.size();
    }

    private int of(int board, int what) {
        if (noBoard(board)) return NO_SUCH;
        if (what < 0 || what > 11) return BAD_VALUE;
        Board b = now.boards.get(board);
        int[] answers = {b.from == null ? NONE : b.from.number, b.rating, b.kind, b.open ? 2 : b.arc > 0 ? 1 : 0,
            now.current(b), b.heat, b.melting(), b.age, b.dead() ? 1 : 0, b.depth(), b.arc, b.blows};
        return answers[what];
    }

    private int ofLoad(int load, int what) {
        if (noLoad(load)) return NO_SUCH;
        if (what < 0 || what > 3) return BAD_VALUE;
        Load l = now.loads.get(load);
        return new int[] {l.at.number, l.current, l.on ? 1 : 0, l.on && !l.at.dead() ? 1 : 0}[what];
    }

    private int fed(int board) {
        if (noBoard(board)) return NO_SUCH;
        int set = 0;
        for (Board b : now.boards) {
            if (b.fedThrough(now.boards.get(board))) set += 1 << b.number;
        }
        return set;
    }

    private int blown(int rank) {
        if (rank < 0 || rank >= Math.min(8, now.blown.size())) return NO_SUCH;
        return now.blown.get(now.blown.size() - 1 - rank);
    }

    private int working(State s) {
        int set = 0;
        for (int i = 0; i < s.loads.size(); i++) {
            if (s.loads.get(i).on && !s.loads.get(i).at.dead()) set += 1 << i;
        }
        return set;
    }

    private int count(int what) {
        if (what < 0 || what > 13) return BAD_VALUE;
        int dead = 0, open = 0, burning = 0;
        for (Board b : now.boards) {
            if (b.dead()) dead += 1 << b.number;
            if (b.open) open += 1 << b.number;
            if (b.arc > 0) burning += 1 << b.number;
        }
        return new int[] {now.time, now.boards.size(), now.loads.size(), dead, working(now), open, burning,
            now.blown.size(), now.boards.isEmpty() ? 0 : now.current(now.boards.get(0)),
            now.settings[0], now.settings[1], now.settings[2], pad.length(), history.size()}[what];
    }

    private int[] firstBlow(State s) {
        for (int i = 1; i <= 200; i++) {
            List<Board> blowing = s.tick();
            if (!blowing.isEmpty()) return new int[] {i, blowing.get(0).number};
        }
        return new int[] {NONE, NONE};
    }

    private int[] faultAt(int board, int current) {
        State s = now.copy();
        for (Load l : s.loads) l.on = false;
        for (Board b : s.boards) b.heat = 0;
        Load fault = new Load();
        fault.at = s.boards.get(board);
        fault.current = current;
        fault.on = true;
        s.loads.add(fault);
        return firstBlow(s);
    }

    private int unfair(int times) {
        if (times < 2 || times > 20) return BAD_VALUE;
        int set = 0;
        for (Board b : now.boards) {
            int first = faultAt(b.number, times * b.rating)[1];
            if (first != NONE && first != b.number) set += 1 << b.number;
        }
        return set;
    }

    private int ifOpen(int board) {
        if (noBoard(board)) return NO_SUCH;
        State s = now.copy();
        s.boards.get(board).open = true;
        return working(now) & ~working(s);
    }

    private int put(long characters) {
        String text = "";
        long rest = characters;
        while (rest != 0) {
            long code = rest & 255;
            if (code < 33 || code > 126) return BAD_VALUE;
            text = (char) code + text;
            rest >>>= 8;
        }
        if (text.isEmpty()) return BAD_VALUE;
        if (pad.length() + text.length() > 80) return TOO_MANY;
        pad += text;
        return pad.length();
    }

    private static final String NUMBER = "(0|[1-9][0-9]{0,2})";
    private static final Pattern ORDER = Pattern.compile(
        "b([0-9])\\." + NUMBER + "([qso])|l([0-9])=" + NUMBER + "|s" + NUMBER + "|f([0-9])\\." + NUMBER + "([qso])|t" + NUMBER);
    private static final Pattern TEXT = Pattern.compile("(" + ORDER.pattern() + ")(;(" + ORDER.pattern() + "))*");

    /** Whether a text begins some text without a fault, or is one. */
    private static boolean canGoOn(String start) {
        Matcher m = TEXT.matcher(start);
        return m.matches() || m.hitEnd();
    }

    int fault() {
        if (TEXT.matcher(pad).matches()) return NONE;
        for (int i = 0; i < pad.length(); i++) {
            if (!canGoOn(pad.substring(0, i + 1))) return i;
        }
        return pad.length();
    }

    private int carryOut() {
        if (fault() != NONE) return BAD_TEXT;
        State before = now.copy();
        int done = 0;
        for (String order : pad.split(";")) {
            if (obey(order) < 0) break;
            done++;
        }
        pad = "";
        record(before);
        return done;
    }

    private int obey(String order) {
        Matcher m = ORDER.matcher(order);
        if (!m.matches()) throw new IllegalStateException(order);
        switch (order.charAt(0)) {
            case 'b': return act(1, number(m, 1), number(m, 2), "qso".indexOf(m.group(3)));
            case 'l': return act(2, number(m, 4), number(m, 5));
            case 's': return act(3, number(m, 6));
            case 'f': return act(4, number(m, 7), number(m, 8), "qso".indexOf(m.group(9)));
            default: return act(5, number(m, 10));
        }
    }

    private static int number(Matcher m, int group) {
        return Integer.parseInt(m.group(group));
    }

    private int undo() {
        if (history.isEmpty()) return NOT_POSSIBLE;
        now = history.removeLast();
        return history.size();
    }

    private int save(int slot) {
        if (slot != 0 && slot != 1) return BAD_VALUE;
        slots[slot] = now.copy();
        return now.boards.size();
    }

    private int restore(int slot) {
        if (slot != 0 && slot != 1) return BAD_VALUE;
        if (slots[slot] == null) return NOT_POSSIBLE;
        record(now);
        now = slots[slot].copy();
        return now.boards.size();
    }

    /** Makes a call, told as its method's place in the face and its arguments. */
    int call(int method, int a, int b, int c, long characters) {
        switch (method) {
            case 0: case 1: case 2: case 3: case 4: case 5: return change(new int[] {method, a, b, c});
            case 6: return of(a, b);
            case 7: return ofLoad(a, b);
            case 8: return fed(a);
            case 9: return blown(a);
            case 10: return count(a);
            case 11: return a == 0 || a == 1 ? firstBlow(now.copy())[a] : BAD_VALUE;
            case 12:
                if (noBoard(a)) return NO_SUCH;
                return b < 1 || b > 9999 || c < 0 || c > 1 ? BAD_VALUE : faultAt(a, b)[c];
            case 13: return unfair(a);
            case 14: return ifOpen(a);
            case 15: return put(characters);
            case 16:
                int length = pad.length();
                pad = "";
                return length;
            case 17: return fault();
            case 18: return carryOut();
            case 19: return undo();
            case 20: return save(a);
            default: return restore(a);
        }
    }
}
