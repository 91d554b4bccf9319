import java.util.function.IntPredicate;
import java.util.function.IntToLongFunction;

/** Each argument of each call, swept over its range and beyond both ends: what is in is taken, what is out is refused. */
public final class RangesTest {
    private static final Due DUE = new Due("RangesTest");
    private static final int BAD = -1, VOID = -2000000000;
    private static final long NONE = Long.MIN_VALUE;
    private static final int BEYOND = 70;

    public static void main(String[] args) {
        build();
        rounds();
        pane();
        mend();
        of();
        stands();
        fire();
        nights();
        judge();
        acts();
        shelves();
        shift();
        DUE.end();
    }

    // ---- sweeping

    /** The answer is the refusal if v is out, and is not if it is in. */
    private static void one(String call, int v, boolean in, long refusal, IntToLongFunction answer) {
        boolean refused = answer.applyAsLong(v) == refusal;
        DUE.is(call + " with " + v + " is refused by " + refusal, refused ? 1 : 0, in ? 0 : 1);
    }

    private static void such(String call, int low, int high, IntPredicate in, long refusal, IntToLongFunction answer) {
        for (int v = low - BEYOND; v <= high + BEYOND; v++) {
            one(call, v, in.test(v), refusal, answer);
        }
        // far off, and such that would be in by their lowest bits alone
        int[] far = {Integer.MIN_VALUE, Integer.MIN_VALUE + 1, Integer.MIN_VALUE + low, Integer.MAX_VALUE, Integer.MAX_VALUE - 1,
            1 << 16 | low & 0xffff, -1 << 16 | low & 0xffff, 1 << 24 | low & 0xff, 1000000};
        for (int v : far) {
            if (v < low - BEYOND || v > high + BEYOND) {
                one(call, v, in.test(v), refusal, answer);
            }
        }
    }

    private static void from(String call, int low, int high, long refusal, IntToLongFunction answer) {
        such(call, low, high, v -> v >= low && v <= high, refusal, answer);
    }

    // ---- objects

    /** Three ROUNDS, two PANES, a WATCH, four BODIES on SHELVES 0 .. 2, and ROWS of 5 bytes on 3 .. 5. */
    private static PalletSky some() {
        PalletSky x = new PalletSky();
        x.build(40, 44);
        x.build(31, 54);
        x.build(20, 43);
        x.pane(1003);
        x.pane(502);
        for (int i = 0; i < 4; i++) {
            x.body(0);
        }
        for (int i = 0; i < 3; i++) {
            x.keep(i, i);
            x.row(3 + i, 0, 5);
        }
        return x;
    }

    // ---- promises 1 to 9

    private static void build() {
        such("2: build(pd, 44)", 10, 99, v -> v >= 10 && v <= 99 && v % 10 <= v / 10, BAD, v -> new PalletSky().build(v, 44));
        such("2: build(10, xy)", 0, 88, v -> v >= 0 && v <= 88 && v % 10 <= 8, BAD, v -> new PalletSky().build(10, v));
    }

    private static void rounds() {
        from("4: rounds(shelf, 0, 1)", 0, 5, BAD, v -> new PalletSky().rounds(v, 0, 1));
        from("4: rounds(3, 0, n)", 1, 15, BAD, v -> some().rounds(3, 0, v));
        // a place is never BAD: where none is, the ROW has ended
        for (int sort = 0; sort < 2; sort++) {
            long due = sort == 0 ? 0 : -12;
            int now = sort;
            such("4: rounds(0, i, 1)", 0, 4, v -> false, due, v -> {
                PalletSky x = new PalletSky();
                x.row(0, now, 4);
                return x.rounds(0, v, 1);
            });
        }
        such("4: rounds of one four", 0, 0, v -> v == 0, 0, v -> {
            PalletSky x = new PalletSky();
            Due.bytes(x, 0, 1, 0, 0, 0);
            return x.rounds(0, v, 1);
        });
        // each of the four, told by a byte
        from("4: PALLETS", 1, 9, 0, v -> four(v, 0, 0, 0));
        from("4: DAMP", 0, 7, 0, v -> four(7, v, 0, 0));
        from("4: SLIP x", -4, 4, 0, v -> four(1, 0, v, 0));
        from("4: SLIP y", -4, 4, 0, v -> four(1, 0, 0, v));
    }

    /** A ROUND from a ROW; what is no byte does not fit into one, so it is told as one that is not so. */
    private static int four(int... told) {
        for (int v : told) {
            if (v < Byte.MIN_VALUE || v > Byte.MAX_VALUE) {
                return 0;
            }
        }
        PalletSky x = new PalletSky();
        Due.bytes(x, 0, told);
        return x.rounds(0, 0, 1);
    }

    private static void pane() {
        such("5: pane(fu)", 100, 9999, v -> v >= 100 && v <= 9999 && v % 100 <= 23, BAD, v -> new PalletSky().pane(v));
    }

    private static void mend() {
        int[] low = {-4, -4, 0, -9, -9, 0, 1, 0}, high = {4, 4, 4, 9, 9, 9, 999, 12}, last = {2, 2, 2, 0, 0, 1, 0, 0};
        for (int i = 0; i < 8; i++) {
            int what = i;
            from("6: mend(0, " + what + ", v)", low[i], high[i], VOID, v -> some().mend(0, what, v));
            from("6: mend(number, " + what + ", 1)", 0, last[i], VOID, v -> some().mend(v, what, 1));
        }
        from("6: mend(1, 2, v): 3 PALLETS", 0, 3, VOID, v -> some().mend(1, 2, v));
        from("6: mend(0, what, 1)", 0, 7, VOID, v -> some().mend(0, v, 1));
        from("6: mend(1, what, 1)", 0, 5, VOID, v -> v == 3 || v == 4 ? 0 : some().mend(1, v, 1));
    }

    private static void of() {
        PalletSky x = some();
        such("7: of(0, what)", 0, 28, v -> v >= 0 && v <= 6 || v >= 10 && v <= 12 || v >= 20 && v <= 28, VOID, v -> x.of(0, v));
        PalletSky y = some();
        such("7: of(1, what)", 0, 28, v -> v >= 0 && v <= 6 || v >= 10 && v <= 12, VOID, v -> y.of(1, v));
        PalletSky bare = new PalletSky();
        such("7: of(0, what) of a bare place", 0, 28, v -> v >= 20 && v <= 28, VOID, v -> bare.of(0, v));
        for (int i = 0; i <= 28; i++) {
            int what = i;
            int last = i <= 6 ? 2 : i >= 10 && i <= 12 ? 1 : i >= 20 ? 0 : -1;
            PalletSky z = some();
            such("7: of(number, " + what + ")", 0, 2, v -> v >= 0 && v <= last, VOID, v -> z.of(v, what));
        }
    }

    // ---- promises 10 to 20

    private static void stands() {
        from("8: feed(letter)", 0, 255, BAD, v -> new PalletSky().feed(v));
        from("10: falls(what)", 0, 1, BAD, v -> some().falls(v));
        from("11: topples(direction)", 0, 3, BAD, v -> some().topples(v));
        from("12: broad(round)", 0, 2, BAD, v -> some().broad(v));
        from("13: straight(pallets, 0)", 1, 9, BAD, v -> some().straight(v, 0));
        from("13: straight(1, what)", 0, 1, BAD, v -> some().straight(1, v));
    }

    private static void fire() {
        from("16: fuel(round, 0)", 0, 2, BAD, v -> some().fuel(v, 0));
        from("16: fuel(0, minute)", 0, 60, BAD, v -> some().fuel(0, v));
        from("17: burns(what)", 0, 3, BAD, v -> some().burns(v));
        from("18: heat(pane, 0)", 0, 1, BAD, v -> some().heat(v, 0));
        from("18: heat(0, minute)", 0, 60, BAD, v -> some().heat(0, v));
        from("19: cracks(pane, 0)", 0, 1, BAD, v -> some().cracks(v, 0));
        from("19: cracks(0, what)", 0, 1, BAD, v -> some().cracks(0, v));
        from("20: boarded(pane)", -1, 1, BAD, v -> some().boarded(v));
    }

    // ---- promises 21 to 30

    private static void nights() {
        from("21: watch(night, 1)", 0, 29, BAD, v -> new PalletSky().watch(v, 1));
        from("21: watch(0, is)", 0, 1, BAD, v -> new PalletSky().watch(0, v));
        from("22: nights(1, n)", 1, 30, BAD, v -> new PalletSky().nights(1, v));
        from("23: best(1, 1, what)", 0, 1, BAD, v -> new PalletSky().best(1, 1, v));
        for (int gone : new int[] {0, 1, 17, 29}) {
            PalletSky x = new PalletSky();
            if (gone > 0) {
                x.nights(1, gone);
            }
            from("23: best(1, n, 0), " + gone + " gone", 1, 30 - gone, BAD, v -> x.best(1, v, 0));
        }
        from("26: led(what)", 0, 1, BAD, v -> new PalletSky().led(v));
    }

    private static void judge() {
        from("25: judge(shelf, 0)", 0, 5, BAD, v -> some().judge(v, 0));
        from("25: judge(3, pane)", 0, 1, BAD, v -> some().judge(3, v));
    }

    // ---- promises 31 to 40

    private static void acts() {
        from("31: body(kind)", 0, 7, BAD, v -> new PalletSky().body(v));
        // act() answers 0 both ways: whether bodies ran tells
        from("32: act(body, 0, 1)", 0, 3, 0, v -> ran(v, 0));
        from("32: act(0, act, 1)", 0, 3, 0, v -> ran(0, v));
        PalletSky x = new PalletSky();
        x.body(7);
        x.act(0, 3, 1);
        from("33: trace(i)", 0, 13, BAD, v -> x.trace(v));
        from("40: count(what)", 0, 6, BAD, v -> some().count(v));
    }

    private static int ran(int body, int act) {
        PalletSky x = some();
        x.act(body, act, 1);
        return x.count(6);
    }

    private static void shelves() {
        from("34: keep(shelf, -1)", 0, 5, BAD, v -> some().keep(v, -1));
        from("34: keep(0, body)", -1, 3, BAD, v -> some().keep(0, v));
        from("35: row(shelf, 0, 1)", 0, 5, BAD, v -> some().row(v, 0, 1));
        from("35: row(0, sort, 1)", 0, 4, BAD, v -> some().row(0, v, 1));
        such("35: row(0, 0, n), BAD", 0, 60, v -> v <= 60, BAD, v -> some().row(0, 0, v));
        such("35: row(0, 0, n), a size below 0", 0, 60, v -> v >= 0, -14, v -> some().row(0, 0, v));
        from("36: put(shelf, 0, 1)", 0, 5, BAD, v -> some().put(v, 0, 1));
        from("36: put(3, i, 1)", 0, 4, -13, v -> some().put(3, v, 1));
        from("37: element(shelf, 0)", 3, 5, NONE, v -> some().element(v, 0));
        from("37: element(3, i)", 0, 4, NONE, v -> some().element(3, v));
        from("39: taken(shelf, 0)", 0, 5, BAD, v -> some().taken(v, 0));
        from("39: taken(0, k)", 0, 7, BAD, v -> some().taken(0, v));
        // the shortest and the longest ROW
        for (int n : new int[] {0, 1, 60}) {
            int last = n - 1;
            such("36: put into " + n, 0, 59, v -> v >= 0 && v <= last, -13, v -> {
                PalletSky x = new PalletSky();
                x.row(0, 3, n);
                return x.put(0, v, 1);
            });
            such("37: element of " + n, 0, 59, v -> v >= 0 && v <= last, NONE, v -> {
                PalletSky x = new PalletSky();
                x.row(0, 3, n);
                return x.element(0, v);
            });
        }
    }

    private static void shift() {
        from("38: shift(shelf, 0, 3, 0, 1)", 0, 5, BAD, v -> some().shift(v, 0, 3, 0, 1));
        from("38: shift(3, 0, other, 0, 1)", 0, 5, BAD, v -> some().shift(3, 0, v, 0, 1));
        for (int n = 0; n <= 5; n++) {
            int many = n;
            from("38: shift(3, i, 4, 0, " + n + ")", 0, 5 - n, -13, v -> some().shift(3, v, 4, 0, many));
            from("38: shift(3, 0, 4, j, " + n + ")", 0, 5 - n, -13, v -> some().shift(3, 0, 4, v, many));
            from("38: shift(3, " + n + ", 4, 0, n)", 0, 5 - n, -13, v -> some().shift(3, many, 4, 0, v));
            from("38: shift(3, 0, 4, " + n + ", n)", 0, 5 - n, -13, v -> some().shift(3, 0, 4, many, v));
            from("38: shift(3, 0, 3, " + n + ", n)", 0, 5 - n, -13, v -> some().shift(3, 0, 3, many, v));
        }
    }
}
