import java.util.ArrayList;
import java.util.List;

/** The document once more, said in another way and without regard to room or speed, to be held against PalletSky. */
final class Oracle {
    static final int BAD = -1, NOT = -2, FULL = -3, STATE = -5, VOID = -2000000000;

    static final class R implements Cloneable {
        int p, d, x, y;
        R(int p, int d, int x, int y) { this.p = p; this.d = d; this.x = x; this.y = y; }
        R same() { return new R(p, d, x, y); }
        boolean so() { return p >= 1 && p <= 9 && d >= 0 && d <= p && Math.abs(x) <= 4 && Math.abs(y) <= 4; }
    }

    static final class P { int far, up, boards; }

    static final class Change { int number, what, before, after; }

    // ---- the acts, as classes

    interface Stands { default int stands(Round r, int x) { r.ran(1); return x + r.n; } }

    interface Tells { default int tells(Round r, int x) { r.ran(2); int a = r.leans(x); return a - r.burns(1); } }

    static class Round implements Stands, Tells {
        int n;
        List<Integer> trace;
        void ran(int body) { trace.add(body); }
        int kind() { return 0; }
        int stands(int x) { return Stands.super.stands(this, x); }
        int tells(int x) { return Tells.super.tells(this, x); }
        int leans(int x) { ran(10); return stands(x) * 2; }
        int burns(int x) { ran(11); return x ^ n; }
    }

    static class Sound extends Round {
        int kind() { return 1; }
        int stands(int x) { ran(20); return super.stands(x) + 3; }
    }

    static class Sagging extends Round {
        int kind() { return 2; }
        int leans(int x) { ran(30); return -super.leans(x); }
    }

    static class Leaning extends Sagging {
        int kind() { return 3; }
        int burns(int x) { ran(40); return super.burns(x) * 3; }
        int leans(int x) { ran(41); return super.leans(x + 1); }
    }

    static class Turned extends Sound {
        int kind() { return 4; }
        int burns(int x) { ran(50); int a = super.burns(x); return a - stands(2); }
    }

    static class Burnt extends Leaning {
        int kind() { return 5; }
        int tells(int x) { ran(60); return super.tells(x) ^ 5; }
    }

    static class Stolen extends Round {
        int kind() { return 6; }
        int stands(int x) { ran(70); return super.stands(x) * 2; }
    }

    static class Crown extends Turned {
        int kind() { return 7; }
        int leans(int x) { ran(80); int a = super.leans(x); return a + burns(2); }
        int tells(int x) { ran(81); return super.tells(x) - 1; }
    }

    List<R> stack = new ArrayList<>();
    List<P> panes = new ArrayList<>();
    List<Change> done = new ArrayList<>(), undone = new ArrayList<>();
    List<Round> bodies = new ArrayList<>();
    List<Integer> trace = new ArrayList<>();
    Object[] shelves = new Object[6];
    int wx, wy, limit = 200, thieves = 3;
    // dry, damp, gone, stolen, latest, watches
    int[] store = {20, 10, 0, 0, NOT, 0};
    int[] image;
    String tape = "", law;

    // ---- standing

    static int[] push(List<R> s, int[] counts, int i, int wx, int wy) {
        int mx = 0, my = 0, px = 0, py = 0, above = 0;
        for (int j = 0; j < s.size(); j++) {
            mx += s.get(j).x;
            my += s.get(j).y;
            if (j > i) {
                int dx = 0, dy = 0;
                for (int k = i + 1; k <= j; k++) { dx += s.get(k).x; dy += s.get(k).y; }
                px += counts[j] * dx * 6 + wx;
                py += counts[j] * dy * 6 + wy;
                above += counts[j];
            }
        }
        return new int[] {px, py, above};
    }

    static int[] counts(List<R> s) {
        int[] c = new int[s.size()];
        for (int i = 0; i < c.length; i++) c[i] = s.get(i).p;
        return c;
    }

    static boolean holds(List<R> s, int[] counts, int i, int pallets, int wx, int wy) {
        int[] t = push(s, counts, i, wx, wy);
        return Math.abs(t[0]) <= 3 * pallets * t[2] && Math.abs(t[1]) <= 3 * pallets * t[2];
    }

    static int fallsAt(List<R> s, int[] counts, int wx, int wy) {
        for (int i = 0; i < s.size(); i++) if (!holds(s, counts, i, counts[i], wx, wy)) return i;
        return NOT;
    }

    static int whither(List<R> s, int[] counts, int i, int wx, int wy) {
        int[] t = push(s, counts, i, wx, wy);
        if (Math.abs(t[1]) > Math.abs(t[0])) return t[1] > 0 ? 1 : 3;
        return t[0] > 0 ? 0 : 2;
    }

    List<R> thought() {
        List<R> s = new ArrayList<>();
        for (R r : stack) s.add(r.same());
        return s;
    }

    // ---- the law

    /** FAULT of a text, by an automaton over its bytes; -1: there is none. */
    static int fault(String t) {
        boolean operand = true, asked = false;
        int digits = 0;
        // '(' and prefixes that are open; per paren level whether a comparison has been made
        List<Character> open = new ArrayList<>();
        List<Boolean> compared = new ArrayList<>();
        compared.add(false);
        for (int i = 0; i < t.length(); i++) {
            char c = t.charAt(i);
            boolean digit = c >= '0' && c <= '9';
            if (operand) {
                if (digit || (c < 128 && "fpdkmw".indexOf(c) >= 0)) {
                    digits = digit ? 1 : 0;
                    operand = false;
                    while (!open.isEmpty() && open.get(open.size() - 1) != '(') open.remove(open.size() - 1);
                } else if (c == '(' || c == '!' || c == '-') {
                    if (open.size() == 6) return i;
                    open.add(c);
                    if (c == '(') compared.add(false);
                } else {
                    return i;
                }
                continue;
            }
            int top = compared.size() - 1;
            if (digit && digits > 0 && digits < 4) {
                digits++;
                continue;
            }
            digits = 0;
            switch (c) {
                case '|': case '&': compared.set(top, false); operand = true; break;
                case '<': case '=': case '>':
                    if (compared.get(top)) return i;
                    compared.set(top, true);
                    operand = true;
                    break;
                case '+': case '-': case '*': case '/': case '%': operand = true; break;
                case ')':
                    if (top == 0) return i;
                    compared.remove(top);
                    open.remove(open.size() - 1);
                    while (!open.isEmpty() && open.get(open.size() - 1) != '(') open.remove(open.size() - 1);
                    break;
                case '?':
                    if (top > 0 || asked) return i;
                    asked = true;
                    compared.set(0, false);
                    operand = true;
                    break;
                case ';':
                    if (top > 0) return i;
                    asked = false;
                    compared.set(0, false);
                    operand = true;
                    break;
                default: return i;
            }
        }
        return operand || compared.size() > 1 ? t.length() : -1;
    }

    static int worth(String t, int[] names) {
        for (String line : t.split(";")) {
            int q = line.indexOf('?');
            if (q < 0) return value(line, names);
            if (value(line.substring(0, q), names) != 0) return value(line.substring(q + 1), names);
        }
        return 0;
    }

    /** Splits at the last of the loosest operators. */
    static int value(String e, int[] names) {
        String[] levels = {"|", "&", "<=>", "+-", "*/%"};
        for (String level : levels) {
            int depth = 0;
            for (int i = e.length() - 1; i > 0; i--) {
                char c = e.charAt(i);
                if (c == ')') depth++;
                if (c == '(') depth--;
                char b = e.charAt(i - 1);
                boolean infix = Character.isLetterOrDigit(b) || b == ')';
                if (depth == 0 && infix && level.indexOf(c) >= 0) {
                    return joined(c, value(e.substring(0, i), names), value(e.substring(i + 1), names));
                }
            }
        }
        char c = e.charAt(0);
        if (c == '(') return value(e.substring(1, e.length() - 1), names);
        if (c == '!') return value(e.substring(1), names) == 0 ? 1 : 0;
        if (c == '-') return -value(e.substring(1), names);
        int name = "fpdkmw".indexOf(c);
        return name >= 0 ? names[name] : Integer.parseInt(e);
    }

    static int joined(char c, int a, int b) {
        switch (c) {
            case '|': return (a | b) != 0 ? 1 : 0;
            case '&': return a != 0 && b != 0 ? 1 : 0;
            case '<': return a < b ? 1 : 0;
            case '=': return a == b ? 1 : 0;
            case '>': return a > b ? 1 : 0;
            case '+': return (int) ((long) a + b);
            case '-': return (int) ((long) a - b);
            case '*': return (int) ((long) a * b);
            case '/': return b == 0 ? 0 : (int) ((long) a / b);
            default: return b == 0 ? 0 : (int) ((long) a % b);
        }
    }

    // ---- the fire: [minute][round] FUEL left, what burnt; and when it falls

    int[][] left, burnt;
    int fallMinute, fallAt, fallWhither, out;

    void burn() {
        int n = stack.size();
        left = new int[61][n];
        burnt = new int[61][n];
        fallMinute = fallAt = fallWhither = out = NOT;
        int[] fuel = new int[n], first = new int[n], lit = new int[n];
        for (int i = 0; i < n; i++) {
            R r = stack.get(i);
            first[i] = fuel[i] = (r.p - r.d) * 12 + r.d * 8;
            lit[i] = i == 0 ? 0 : lit[i - 1] + (r.d > r.p - r.d ? 4 : 2);
        }
        for (int m = 0; m <= 60; m++) {
            int all = 0;
            for (int i = 0; i < n; i++) {
                R r = stack.get(i);
                if (m >= lit[i]) {
                    int w = Math.abs(wx) + Math.abs(wy);
                    int b = law == null ? (r.p + w) / 2 + 1 : worth(law, new int[] {fuel[i], r.p, r.d, i, m, w});
                    burnt[m][i] = b < 0 ? 0 : b > fuel[i] ? fuel[i] : b;
                }
                fuel[i] -= burnt[m][i];
                left[m][i] = fuel[i];
                all += fuel[i];
            }
            if (all == 0 && out == NOT) out = m;
            int[] c = new int[n];
            for (int i = 0; i < n; i++) {
                int p = stack.get(i).p;
                c[i] = fuel[i] == 0 ? 0 : fuel[i] * 2 > first[i] ? p : p == 1 ? 1 : p / 2;
            }
            int at = fallsAt(stack, c, wx, wy);
            if (at != NOT && fallMinute == NOT) {
                fallMinute = m;
                fallAt = at;
                fallWhither = whither(stack, c, at, wx, wy);
            }
        }
    }

    int heatAt(P pane, int boards, int minute) {
        int sum = 0;
        for (int i = 0; i < stack.size(); i++) {
            sum += burnt[minute][i] * 100 / (pane.far + Math.abs(i - pane.up));
        }
        return Math.max(0, sum - 20 * boards);
    }

    int crack(P pane, int boards) {
        burn();
        for (int m = 0; m <= 60; m++) {
            if (heatAt(pane, boards, m) >= limit) return m;
            if (m == fallMinute) return NOT;
        }
        return NOT;
    }

    int fewest(P pane) {
        for (int b = 0; b <= 9; b++) if (crack(pane, b) == NOT) return b;
        return NOT;
    }

    // ---- the face

    int build(int pd, int xy) {
        if (pd < 0 || xy < 0 || pd > 99 || xy > 99) return BAD;
        R r = new R(pd / 10, pd % 10, xy / 10 - 4, xy % 10 - 4);
        if (!r.so()) return BAD;
        if (stack.size() == 24) return FULL;
        if (store[0] < r.p - r.d || store[1] < r.d) return STATE;
        store[0] -= r.p - r.d;
        store[1] -= r.d;
        stack.add(r);
        return stack.size() - 1;
    }

    int unbuild() {
        if (stack.isEmpty()) return STATE;
        R r = stack.remove(stack.size() - 1);
        store[0] = Math.min(99, store[0] + r.p - r.d);
        store[1] = Math.min(99, store[1] + r.d);
        return stack.size();
    }

    int rounds(int shelf, int i, int n) {
        if (shelf < 0 || shelf > 5 || n < 1 || n > 15) return BAD;
        Object o = shelves[shelf];
        if (o != null && !(o instanceof byte[])) return -12;
        byte[] row = (byte[]) o;
        int came = 0;
        try {
            while (came < n && stack.size() < 24) {
                R r = new R(row[i], row[i + 1], row[i + 2], row[i + 3]);
                if (!r.so()) break;
                stack.add(r);
                came++;
                i += 4;
            }
        } catch (NullPointerException | ArrayIndexOutOfBoundsException e) {
            return came;
        }
        return came;
    }

    int pane(int fu) {
        if (fu < 0 || fu / 100 < 1 || fu / 100 > 99 || fu % 100 > 23) return BAD;
        if (panes.size() == 8) return FULL;
        P p = new P();
        p.far = fu / 100;
        p.up = fu % 100;
        panes.add(p);
        return panes.size() - 1;
    }

    boolean there(int number, int what) {
        if (what >= 0 && what <= 2) return number >= 0 && number < stack.size();
        if (what == 5) return number >= 0 && number < panes.size();
        return what >= 3 && what <= 7 && number == 0;
    }

    int value(int number, int what) {
        switch (what) {
            case 0: return stack.get(number).x;
            case 1: return stack.get(number).y;
            case 2: return stack.get(number).d;
            case 3: return wx;
            case 4: return wy;
            case 5: return panes.get(number).boards;
            case 6: return limit;
            default: return thieves;
        }
    }

    void set(int number, int what, int v) {
        switch (what) {
            case 0: stack.get(number).x = v; break;
            case 1: stack.get(number).y = v; break;
            case 2: stack.get(number).d = Math.min(v, stack.get(number).p); break;
            case 3: wx = v; break;
            case 4: wy = v; break;
            case 5: panes.get(number).boards = v; break;
            case 6: limit = v; break;
            default: thieves = v; break;
        }
    }

    int mend(int number, int what, int v) {
        if (!there(number, what)) return VOID;
        int[] low = {-4, -4, 0, -9, -9, 0, 1, 0};
        int[] high = {4, 4, what == 2 ? stack.get(number).p : 0, 9, 9, 9, 999, 12};
        if (v < low[what] || v > high[what]) return VOID;
        int was = value(number, what);
        if (was == v) return was;
        set(number, what, v);
        Change c = new Change();
        c.number = number;
        c.what = what;
        c.before = was;
        c.after = v;
        done.add(c);
        undone.clear();
        if (done.size() > 40) done.remove(0);
        return was;
    }

    int of(int number, int what) {
        boolean round = number >= 0 && number < stack.size(), pane = number >= 0 && number < panes.size();
        if (what >= 0 && what <= 6) {
            if (!round) return VOID;
            int mx = 0, my = 0;
            for (int i = 0; i <= number; i++) { mx += stack.get(i).x; my += stack.get(i).y; }
            R r = stack.get(number);
            boolean holds = holds(stack, counts(stack), number, r.p, wx, wy);
            return new int[] {r.x, r.y, r.d, r.p, mx, my, holds ? 1 : 0}[what];
        }
        if (what >= 10 && what <= 12) {
            if (!pane) return VOID;
            P p = panes.get(number);
            return new int[] {p.far, p.up, p.boards}[what - 10];
        }
        if (number != 0 || what < 20 || what > 28) return VOID;
        int may = 120;
        if (!panes.isEmpty()) {
            may = 300;
            for (P p : panes) may = Math.min(may, 3 * p.far);
        }
        return new int[] {wx, wy, limit, thieves, store[0], store[1], 5 * stack.size(), may, store[2]}[what - 20];
    }

    int feed(int letter) {
        if (letter < 0 || letter > 255) return BAD;
        if (tape.length() == 120) return FULL;
        tape += (char) letter;
        return tape.length();
    }

    int law() {
        int f = fault(tape);
        if (f < 0) law = tape;
        tape = "";
        return f < 0 ? 1 : -100 - f;
    }

    int falls(int what) {
        if (what != 0 && what != 1) return BAD;
        int at = fallsAt(stack, counts(stack), wx, wy);
        return at == NOT ? NOT : what == 0 ? at : whither(stack, counts(stack), at, wx, wy);
    }

    int topples(int direction) {
        if (direction < 0 || direction > 3) return BAD;
        int[] dx = {1, 0, -1, 0}, dy = {0, 1, 0, -1};
        for (int w = 0; w <= 99; w++) {
            if (fallsAt(stack, counts(stack), w * dx[direction], w * dy[direction]) != NOT) return w;
        }
        return NOT;
    }

    int broad(int round) {
        if (round < 0 || round >= stack.size()) return BAD;
        for (int p = 1; p <= 9; p++) if (holds(stack, counts(stack), round, p, wx, wy)) return p;
        return NOT;
    }

    int straight(int pallets, int what) {
        if (pallets < 1 || pallets > 9 || what < 0 || what > 1) return BAD;
        if (stack.size() == 24) return FULL;
        if (stack.isEmpty()) return STATE;
        int[] best = null;
        for (int xy = 0; xy < 81; xy++) {
            List<R> s = thought();
            s.add(new R(pallets, 0, xy / 9 - 4, xy % 9 - 4));
            int[] t = push(s, counts(s), 0, wx, wy);
            int most = Math.max(Math.abs(t[0]), Math.abs(t[1]));
            if (best == null || most < best[1]) best = new int[] {xy / 9 * 10 + xy % 9, most};
        }
        return best[what];
    }

    int without() {
        int bits = 0;
        for (int i = 0; i < stack.size(); i++) {
            int[] c = counts(stack);
            if (c[i]-- < 2) continue;
            if (fallsAt(stack, c, wx, wy) == NOT) bits += 1 << i;
        }
        return bits;
    }

    int highest() {
        List<R> s = thought();
        int stock = store[0] + store[1], most = 0;
        while (fallsAt(s, counts(s), wx, wy) == NOT) {
            most = s.size() - stack.size();
            if (stock < 3 || s.size() == 24) break;
            s.add(new R(3, 0, 0, 0));
            stock -= 3;
        }
        return most;
    }

    int fuel(int round, int minute) {
        if (round < 0 || round >= stack.size() || minute < 0 || minute > 60) return BAD;
        burn();
        return left[minute][round];
    }

    int burns(int what) {
        if (what < 0 || what > 3) return BAD;
        burn();
        return new int[] {fallMinute, fallAt, fallWhither, out}[what];
    }

    int heat(int pane, int minute) {
        if (pane < 0 || pane >= panes.size() || minute < 0 || minute > 60) return BAD;
        burn();
        return heatAt(panes.get(pane), panes.get(pane).boards, minute);
    }

    int cracks(int pane, int what) {
        if (pane < 0 || pane >= panes.size() || what < 0 || what > 1) return BAD;
        P p = panes.get(pane);
        int first = crack(p, p.boards), most = 0;
        for (int m = 0; m <= 60; m++) most = Math.max(most, heatAt(p, p.boards, m));
        return what == 0 ? first : most;
    }

    int boarded(int pane) {
        if (pane < -1 || pane >= panes.size()) return BAD;
        if (pane >= 0) return fewest(panes.get(pane));
        int sum = 0;
        for (P p : panes) {
            if (fewest(p) == NOT) return NOT;
            sum += fewest(p);
        }
        return sum;
    }

    int watch(int night, int is) {
        if (night < 0 || night > 29 || is < 0 || is > 1) return BAD;
        store[5] &= ~(1 << night);
        store[5] |= is << night;
        int many = 0;
        for (int i = 0; i < 30; i++) many += store[5] >> i & 1;
        return many;
    }

    static int[] z = new int[1];

    static int draw(int m) {
        z[0] = z[0] * 1103515245 + 12345;
        return (z[0] >>> 8) % m;
    }

    static void pass(int[] s, int seed, int n, int thieves) {
        z[0] = seed;
        for (int k = 0; k < n; k++) {
            s[0] = Math.min(99, s[0] + draw(12));
            s[1] = Math.min(99, s[1] + draw(6));
            if (draw(12) < thieves && (s[5] & 1 << s[2]) == 0) {
                s[3] += s[0] / 2;
                s[0] -= s[0] / 2;
                s[4] = s[2];
            }
            s[2]++;
        }
    }

    int nights(int seed, int n) {
        if (n < 1 || n > 30) return BAD;
        if (store[2] + n > 30) return STATE;
        pass(store, seed, n, thieves);
        return store[0];
    }

    int best(int seed, int n, int what) {
        if (n < 1 || n > 30 - store[2] || what < 0 || what > 1) return BAD;
        int[] best = {NOT, -1};
        for (int k = 0; k < n; k++) {
            int[] s = store.clone();
            s[5] |= 1 << store[2] + k;
            pass(s, seed, n, thieves);
            if (s[0] > best[1]) best = new int[] {store[2] + k, s[0]};
        }
        return best[what];
    }

    int rival(int seed) {
        z[0] = seed;
        int his = 0;
        if (stack.isEmpty()) return 0;
        for (int night = 1; night <= 99; night++) {
            if (draw(12) > 4) his++;
            if (his == stack.size()) return night;
        }
        return NOT;
    }

    int judge(int shelf, int pane) {
        if (shelf < 0 || shelf > 5 || pane < 0 || pane >= panes.size()) return BAD;
        if (shelves[shelf] == null) return -11;
        if (!(shelves[shelf] instanceof byte[])) return -12;
        byte[] row = (byte[]) shelves[shelf];
        for (int m = 0; m < row.length; m++) {
            if (row[m] != Math.min(127, heat(pane, m))) return m;
        }
        return NOT;
    }

    int led(int what) {
        return what == 0 ? store[3] : what == 1 ? store[4] : BAD;
    }

    int image() {
        image = store.clone();
        return store[2];
    }

    int back() {
        if (image == null) return STATE;
        store = image.clone();
        return store[2];
    }

    int undo() {
        if (done.isEmpty()) return STATE;
        Change c = done.get(done.size() - 1);
        if (!there(c.number, c.what)) return STATE;
        set(c.number, c.what, c.before);
        undone.add(done.remove(done.size() - 1));
        return done.size();
    }

    int redo() {
        if (undone.isEmpty()) return STATE;
        Change c = undone.get(undone.size() - 1);
        if (!there(c.number, c.what)) return STATE;
        set(c.number, c.what, c.after);
        done.add(undone.remove(undone.size() - 1));
        return undone.size();
    }

    int body(int kind) {
        if (kind < 0 || kind > 7) return BAD;
        if (bodies.size() == 50) return FULL;
        Round[] kinds = {new Round(), new Sound(), new Sagging(), new Leaning(), new Turned(), new Burnt(), new Stolen(),
            new Crown()};
        Round r = kinds[kind];
        r.n = bodies.size();
        r.trace = trace;
        bodies.add(r);
        return r.n;
    }

    int act(int body, int act, int x) {
        trace.clear();
        if (body < 0 || body >= bodies.size() || act < 0 || act > 3) return 0;
        Round r = bodies.get(body);
        return act == 0 ? r.stands(x) : act == 1 ? r.leans(x) : act == 2 ? r.burns(x) : r.tells(x);
    }

    int trace(int i) {
        return i < 0 || i >= Math.min(24, trace.size()) ? BAD : trace.get(i);
    }

    int keep(int shelf, int body) {
        if (shelf < 0 || shelf > 5 || body < -1 || body >= bodies.size()) return BAD;
        shelves[shelf] = body < 0 ? null : bodies.get(body);
        return 1;
    }

    int row(int shelf, int sort, int n) {
        if (shelf < 0 || shelf > 5 || sort < 0 || sort > 4 || n > 60) return BAD;
        if (n < 0) return -14;
        Object[] rows = {new byte[n], new short[n], new int[n], new long[n], new boolean[n]};
        shelves[shelf] = rows[sort];
        return 1;
    }

    /** 0: element i is there. */
    int refusal(int shelf, int i) {
        if (shelf < 0 || shelf > 5) return BAD;
        Object o = shelves[shelf];
        if (o == null) return -11;
        if (!o.getClass().isArray()) return -12;
        return i < 0 || i >= java.lang.reflect.Array.getLength(o) ? -13 : 0;
    }

    int put(int shelf, int i, long v) {
        if (refusal(shelf, i) < 0) return refusal(shelf, i);
        Object o = shelves[shelf];
        if (o instanceof byte[]) ((byte[]) o)[i] = (byte) v;
        if (o instanceof short[]) ((short[]) o)[i] = (short) v;
        if (o instanceof int[]) ((int[]) o)[i] = (int) v;
        if (o instanceof long[]) ((long[]) o)[i] = v;
        if (o instanceof boolean[]) ((boolean[]) o)[i] = v != 0;
        return 1;
    }

    long element(int shelf, int i) {
        if (refusal(shelf, i) < 0) return Long.MIN_VALUE;
        Object o = shelves[shelf];
        if (o instanceof boolean[]) return ((boolean[]) o)[i] ? 1 : 0;
        return java.lang.reflect.Array.getLong(o, i);
    }

    int shift(int shelf, int i, int other, int j, int n) {
        if (shelf < 0 || shelf > 5 || other < 0 || other > 5) return BAD;
        Object a = shelves[shelf], b = shelves[other];
        try {
            System.arraycopy(a, i, b, j, n);
        } catch (NullPointerException e) {
            return -11;
        } catch (ArrayStoreException e) {
            return -12;
        } catch (IndexOutOfBoundsException e) {
            return -13;
        }
        return n;
    }

    int taken(int shelf, int k) {
        if (shelf < 0 || shelf > 5 || k < 0 || k > 7) return BAD;
        Class<?>[] kinds = {Round.class, Sound.class, Sagging.class, Leaning.class, Turned.class, Burnt.class, Stolen.class,
            Crown.class};
        Object o = shelves[shelf];
        if (o == null) return -11;
        return kinds[k].isInstance(o) ? ((Round) o).kind() : -12;
    }

    int count(int what) {
        int all = 0;
        for (R r : stack) all += r.p;
        if (what < 0 || what > 6) return BAD;
        return new int[] {stack.size(), panes.size(), all, tape.length(), done.size(), bodies.size(), trace.size()}[what];
    }
}
