/** Promises 31 to 40. */
public final class ActsTest {
    private static final Due DUE = new Due("ActsTest");

    public static void main(String[] args) {
        body();
        act();
        trace();
        wrap();
        wraps();
        keep();
        keepAtTheEnds();
        row();
        put();
        lowestBits();
        shift();
        shiftAsBefore();
        taken();
        count();
        counts();
        DUE.end();
    }

    private static void body() {
        PalletSky x = new PalletSky();
        DUE.is("31: below", x.body(-1), -1);
        DUE.is("31: above", x.body(8), -1);
        for (int i = 0; i < 50; i++) {
            DUE.is("31: body", x.body(i % 8), i);
        }
        DUE.is("31: FULL", x.body(0), -3);
        DUE.is("31: BAD ahead of FULL", x.body(8), -1);
        DUE.is("31: count", x.count(5), 50);
        DUE.is("31: the last's number", x.act(49, 0, 0), 52);
    }

    /** An act of a body whose number is 3, and the bodies that run. */
    private static void acts(int kind, int act, int x, int due, int... trace) {
        PalletSky p = new PalletSky();
        p.body(0);
        p.body(1);
        p.body(2);
        p.body(kind);
        String call = "act " + act + " of KIND " + kind + " with " + x;
        DUE.is("32: " + call, p.act(3, act, x), due);
        DUE.is("40: " + call, p.count(6), trace.length);
        for (int i = 0; i < trace.length; i++) {
            DUE.is("33: " + call + ", trace(" + i + ")", p.trace(i), trace[i]);
        }
        DUE.is("33: " + call + ", behind", p.trace(trace.length), -1);
        DUE.is("33: " + call + ", ahead", p.trace(-1), -1);
    }

    private static void act() {
        // n is 3; x is 10
        acts(0, 0, 10, 13, 1);
        acts(0, 1, 10, 26, 10, 1);
        acts(0, 2, 10, 9, 11);
        acts(0, 3, 10, 26 - 2, 2, 10, 1, 11);
        acts(1, 0, 10, 16, 20, 1);
        acts(1, 1, 10, 32, 10, 20, 1);
        acts(1, 2, 10, 9, 11);
        acts(1, 3, 10, 30, 2, 10, 20, 1, 11);
        acts(2, 0, 10, 13, 1);
        acts(2, 1, 10, -26, 30, 10, 1);
        acts(2, 2, 10, 9, 11);
        acts(2, 3, 10, -28, 2, 30, 10, 1, 11);
        acts(3, 0, 10, 13, 1);
        acts(3, 1, 10, -28, 41, 30, 10, 1);
        acts(3, 2, 10, 27, 40, 11);
        acts(3, 3, 10, -28 - 6, 2, 41, 30, 10, 1, 40, 11);
        acts(4, 0, 10, 16, 20, 1);
        acts(4, 1, 10, 32, 10, 20, 1);
        acts(4, 2, 10, 9 - 8, 50, 11, 20, 1);
        acts(4, 3, 10, 32 - (2 - 8), 2, 10, 20, 1, 50, 11, 20, 1);
        acts(5, 0, 10, 13, 1);
        acts(5, 1, 10, -28, 41, 30, 10, 1);
        acts(5, 2, 10, 27, 40, 11);
        acts(5, 3, 10, -34 ^ 5, 60, 2, 41, 30, 10, 1, 40, 11);
        acts(6, 0, 10, 26, 70, 1);
        acts(6, 1, 10, 52, 10, 70, 1);
        acts(6, 2, 10, 9, 11);
        acts(6, 3, 10, 50, 2, 10, 70, 1, 11);
        acts(7, 0, 10, 16, 20, 1);
        acts(7, 1, 10, 32 + (1 - 8), 80, 10, 20, 1, 50, 11, 20, 1);
        acts(7, 2, 10, 9 - 8, 50, 11, 20, 1);
        acts(7, 3, 10, 25 - (2 - 8) - 1, 81, 2, 80, 10, 20, 1, 50, 11, 20, 1, 50, 11, 20, 1);
    }

    private static void trace() {
        PalletSky x = new PalletSky();
        DUE.is("33: none yet", x.trace(0), -1);
        DUE.is("32: no ROUND", x.act(0, 0, 5), 0);
        x.body(7);
        x.act(0, 3, 5);
        DUE.is("33: the last", x.trace(13), 1);
        DUE.is("33: behind", x.trace(14), -1);
        int[][] bad = {{1, 0}, {-1, 0}, {0, -1}, {0, 4}, {Integer.MAX_VALUE, 0}};
        for (int[] b : bad) {
            x.act(0, 3, 5);
            DUE.is("40: ran", x.count(6), 14);
            DUE.is("32: no such", x.act(b[0], b[1], 5), 0);
            DUE.is("33: no TRACE", x.trace(0), -1);
            DUE.is("40: none ran", x.count(6), 0);
        }
        DUE.is("33: far off", x.trace(Integer.MAX_VALUE), -1);
        x.act(0, 0, 1);
        DUE.is("33: the latest act", x.trace(0), 20);
        DUE.is("33: the latest act", x.trace(2), -1);
    }

    private static void wrap() {
        PalletSky x = new PalletSky();
        x.body(0);
        x.body(3);
        DUE.is("32: wraps", x.act(1, 0, Integer.MAX_VALUE), Integer.MIN_VALUE);
        DUE.is("32: wraps", x.act(1, 1, Integer.MAX_VALUE), -2 * (Integer.MIN_VALUE + 1));
        DUE.is("32: wraps", x.act(1, 2, Integer.MIN_VALUE), 3 * (Integer.MIN_VALUE ^ 1));
        DUE.is("32: below 0", x.act(0, 2, -1), -1);
    }

    // The acts of a KIND with number n, said as sums.

    private static int stands(int kind, int n, int x) {
        return kind == 6 ? (x + n) * 2 : kind == 1 || kind == 4 || kind == 7 ? x + n + 3 : x + n;
    }

    private static int burns(int kind, int n, int x) {
        return kind == 3 || kind == 5 ? (x ^ n) * 3 : kind == 4 || kind == 7 ? (x ^ n) - (n + 5) : x ^ n;
    }

    private static int leans(int kind, int n, int x) {
        switch (kind) {
            case 2: return -(2 * (x + n));
            case 3: case 5: return -(2 * (x + 1 + n));
            case 7: return 2 * (x + n + 3) + burns(7, n, 2);
            default: return 2 * stands(kind, n, x);
        }
    }

    private static int tells(int kind, int n, int x) {
        int plain = leans(kind, n, x) - burns(kind, n, 1);
        return kind == 5 ? plain ^ 5 : kind == 7 ? plain - 1 : plain;
    }

    /** Ints that wrap: each KIND, each ACT, the first and the last number, x at the ends and about their halves. */
    private static void wraps() {
        int min = Integer.MIN_VALUE, max = Integer.MAX_VALUE;
        int[] values = {min, min + 1, min + 49, min / 2, min / 2 - 1, min / 2 - 50, min / 3, -50, -1, 0, 1, max / 3, max / 2,
            max / 2 + 1, max / 2 - 49, max - 49, max - 3, max - 1, max};
        for (int kind = 0; kind < 8; kind++) {
            PalletSky x = new PalletSky();
            for (int i = 0; i < 50; i++) {
                x.body(kind);
            }
            for (int n = 0; n < 50; n += 49) {
                for (int v : values) {
                    String with = " of KIND " + kind + ", number " + n + " with " + v;
                    DUE.is("32: stands" + with, x.act(n, 0, v), stands(kind, n, v));
                    DUE.is("32: leans" + with, x.act(n, 1, v), leans(kind, n, v));
                    DUE.is("32: burns" + with, x.act(n, 2, v), burns(kind, n, v));
                    DUE.is("32: tells" + with, x.act(n, 3, v), tells(kind, n, v));
                }
            }
        }
    }

    private static void keep() {
        PalletSky x = new PalletSky();
        DUE.is("34: shelf", x.keep(-1, -1), -1);
        DUE.is("34: shelf", x.keep(6, -1), -1);
        DUE.is("34: no body", x.keep(0, 0), -1);
        DUE.is("34: no body", x.keep(0, -2), -1);
        DUE.is("34: nothing", x.keep(5, -1), 1);
        x.body(6);
        DUE.is("34: keep", x.keep(0, 0), 1);
        DUE.is("34: a ROUND", x.taken(0, 6), 6);
        DUE.is("34: no such body", x.keep(0, 1), -1);
        DUE.is("34: it stays", x.taken(0, 6), 6);
        DUE.is("34: nothing", x.keep(0, -1), 1);
        DUE.is("34: nothing is there", x.taken(0, 6), -11);
        x.row(0, 0, 3);
        x.keep(0, -1);
        DUE.is("34: no ROW any more", x.put(0, 0, 1), -11);
        x.row(0, 0, 3);
        x.keep(0, 0);
        DUE.is("34: a ROUND in its place", x.put(0, 0, 1), -12);
    }

    /** The last BODY on the last SHELF. */
    private static void keepAtTheEnds() {
        PalletSky x = new PalletSky();
        for (int i = 0; i < 50; i++) {
            DUE.is("34: not kept yet", x.keep(5, i), -1);
            x.body(i % 8);
            DUE.is("34: keep", x.keep(5, i), 1);
            DUE.is("39: its KIND", x.taken(5, 0), i % 8);
        }
        DUE.is("34: BODY 50", x.keep(5, 50), -1);
        DUE.is("31: FULL", x.body(3), -3);
        DUE.is("34: BODY 50 still", x.keep(5, 50), -1);
        DUE.is("39: BODY 49 stays", x.taken(5, 0), 1);
        // one BODY on all SHELVES
        for (int shelf = 0; shelf <= 5; shelf++) {
            DUE.is("34: keep", x.keep(shelf, 7), 1);
            DUE.is("39: CROWN as TURNED", x.taken(shelf, 4), 7);
        }
        DUE.is("34: nothing", x.keep(2, -1), 1);
        DUE.is("34: nothing again", x.keep(2, -1), 1);
        DUE.is("39: nothing", x.taken(2, 4), -11);
        DUE.is("39: beside it", x.taken(1, 4) + x.taken(3, 4), 14);
    }

    private static void row() {
        PalletSky x = new PalletSky();
        int[][] bad = {{-1, 0, 1}, {6, 0, 1}, {0, -1, 1}, {0, 5, 1}, {0, 0, 61}, {0, 5, -1}, {6, 0, -1}, {0, 0, Integer.MAX_VALUE}};
        for (int[] b : bad) {
            DUE.is("35: row(" + b[0] + ", " + b[1] + ", " + b[2] + ")", x.row(b[0], b[1], b[2]), -1);
        }
        DUE.is("35: a size below 0", x.row(0, 0, -1), -14);
        DUE.is("35: far below", x.row(0, 4, Integer.MIN_VALUE), -14);
        DUE.is("35: nothing is there yet", x.put(0, 0, 1), -11);
        for (int sort = 0; sort <= 4; sort++) {
            DUE.is("35: row", x.row(sort, sort, 60), 1);
            for (int i = 0; i < 60; i++) {
                DUE.is("35: 0 at first", x.element(sort, i), 0);
                x.put(sort, i, 1);
            }
            DUE.is("35: 60 are all", x.put(sort, 60, 1), -13);
            DUE.is("35: another one", x.row(sort, sort, 2), 1);
            DUE.is("35: 0 again", x.element(sort, 0), 0);
            DUE.is("35: 0 again", x.element(sort, 1), 0);
            DUE.is("35: two", x.put(sort, 2, 1), -13);
        }
        DUE.is("35: empty", x.row(5, 3, 0), 1);
        DUE.is("35: no place", x.put(5, 0, 1), -13);
        DUE.is("35: one below 0 changes nothing", x.row(4, 0, -1), -14);
        DUE.is("35: it stays", x.put(4, 1, 1), 1);
    }

    private static void put() {
        PalletSky x = new PalletSky();
        long none = Long.MIN_VALUE;
        DUE.is("36: shelf", x.put(-1, 0, 1), -1);
        DUE.is("36: shelf", x.put(6, 0, 1), -1);
        DUE.is("37: shelf", x.element(-1, 0), none);
        DUE.is("37: shelf", x.element(6, 0), none);
        DUE.is("36: nothing", x.put(0, -1, 1), -11);
        DUE.is("37: nothing", x.element(0, 0), none);
        x.body(0);
        x.keep(0, 0);
        DUE.is("36: a ROUND", x.put(0, -1, 1), -12);
        DUE.is("37: a ROUND", x.element(0, 0), none);
        long[] values = {0, 1, -1, 127, 128, 255, 256, 32767, 32768, 65536, Integer.MAX_VALUE, 1L << 31, 1L << 32, -129, -32769,
            Long.MAX_VALUE, Long.MIN_VALUE, 0x123456789ABCDEFL, 2};
        for (int sort = 0; sort <= 4; sort++) {
            x.row(1, sort, 3);
            DUE.is("36: place", x.put(1, -1, 1), -13);
            DUE.is("36: place", x.put(1, 3, 1), -13);
            DUE.is("36: place", x.put(1, Integer.MAX_VALUE, 1), -13);
            DUE.is("37: place", x.element(1, -1), none);
            DUE.is("37: place", x.element(1, 3), none);
            for (long v : values) {
                long[] due = {(byte) v, (short) v, (int) v, v, v == 0 ? 0 : 1};
                DUE.is("36: put", x.put(1, 2, v), 1);
                DUE.is("37: sort " + sort + " of " + v, x.element(1, 2), due[sort]);
                DUE.is("37: the one beside it", x.element(1, 1), 0);
            }
        }
    }

    private static void bits(int sort, long v, long due) {
        PalletSky x = new PalletSky();
        x.row(0, sort, 3);
        DUE.is("36: put", x.put(0, 1, v), 1);
        DUE.is("37: sort " + sort + " of " + v, x.element(0, 1), due);
        DUE.is("37: ahead of it", x.element(0, 0), 0);
        DUE.is("37: behind it", x.element(0, 2), 0);
    }

    /** What is put in keeps its lowest bits: the last value that fits and the first that does not, either side. */
    private static void lowestBits() {
        int[] bits = {8, 16, 32};
        for (int sort = 0; sort < 3; sort++) {
            long top = 1L << bits[sort] - 1;
            bits(sort, top - 1, top - 1);
            bits(sort, top, -top);
            bits(sort, top + 1, -top + 1);
            bits(sort, -top, -top);
            bits(sort, -top - 1, top - 1);
            bits(sort, 2 * top - 1, -1);
            bits(sort, 2 * top, 0);
            bits(sort, 2 * top + 1, 1);
            bits(sort, -2 * top, 0);
            bits(sort, Long.MAX_VALUE, -1);
            bits(sort, Long.MIN_VALUE, 0);
        }
        for (long v : new long[] {Long.MAX_VALUE, Long.MIN_VALUE, -1, 0, 1, 1L << 32, 1L << 62, -1L << 32}) {
            bits(3, v, v);
            bits(4, v, v == 0 ? 0 : 1);
        }
        // whether it is not 0, of all its bits
        for (int i = 0; i < 64; i++) {
            bits(4, 1L << i, 1);
            bits(0, 1L << i, i < 7 ? 1L << i : i == 7 ? -128 : 0);
        }
    }

    /** As they all were before, wherever the two overlap; the whole ROW and nothing of it. */
    private static void shiftAsBefore() {
        for (int i = 0; i <= 6; i++) {
            for (int j = 0; j <= 6; j++) {
                for (int n = 0; n <= 7; n++) {
                    PalletSky x = new PalletSky();
                    Due.bytes(x, 2, 1, 2, 3, 4, 5, 6);
                    int[] due = {1, 2, 3, 4, 5, 6};
                    boolean there = i + n <= 6 && j + n <= 6;
                    for (int k = 0; there && k < n; k++) {
                        due[j + k] = i + k + 1;
                    }
                    DUE.is("38: shift(2, " + i + ", 2, " + j + ", " + n + ")", x.shift(2, i, 2, j, n), there ? n : -13);
                    for (int k = 0; k < 6; k++) {
                        DUE.is("38: element " + k, x.element(2, k), due[k]);
                    }
                }
            }
        }
        for (int sort = 0; sort <= 4; sort++) {
            PalletSky x = new PalletSky();
            x.row(0, sort, 60);
            x.row(1, sort, 60);
            x.row(2, sort, 0);
            x.put(0, 0, 1);
            x.put(0, 59, 1);
            DUE.is("38: 60 are all", x.shift(0, 0, 1, 0, 60), 60);
            DUE.is("38: the first", x.element(1, 0), 1);
            DUE.is("38: the last", x.element(1, 59), 1);
            DUE.is("38: 61", x.shift(0, 0, 1, 0, 61), -13);
            DUE.is("38: of an empty one none", x.shift(2, 0, 1, 60, 0), 0);
            DUE.is("38: of an empty one one", x.shift(2, 0, 1, 0, 1), -13);
            DUE.is("38: to an empty one", x.shift(0, 60, 2, 0, 0), 0);
            for (int other = 0; other <= 4; other++) {
                x.row(3, other, 60);
                DUE.is("38: sorts " + sort + ", " + other, x.shift(0, 0, 3, 0, 1), other == sort ? 1 : -12);
                DUE.is("38: none of them", x.shift(3, 60, 0, 60, 0), other == sort ? 0 : -12);
            }
        }
    }

    private static void shift() {
        PalletSky x = new PalletSky();
        x.row(0, 2, 5);
        DUE.is("38: shelf", x.shift(-1, 0, 0, 0, 1), -1);
        DUE.is("38: shelf", x.shift(0, 0, 6, 0, 1), -1);
        DUE.is("38: nothing", x.shift(0, 0, 1, 0, 1), -11);
        DUE.is("38: nothing", x.shift(1, 0, 0, 0, 1), -11);
        x.body(0);
        x.keep(2, 0);
        DUE.is("38: -11 ahead of -12", x.shift(2, 0, 1, 0, 1), -11);
        DUE.is("38: a ROUND", x.shift(2, 0, 0, 0, 1), -12);
        DUE.is("38: a ROUND", x.shift(0, 0, 2, 0, 1), -12);
        DUE.is("38: ROUNDS", x.shift(2, 0, 2, 0, 1), -12);
        x.row(3, 3, 5);
        DUE.is("38: unlike sorts", x.shift(0, 0, 3, 0, 1), -12);
        DUE.is("38: -12 ahead of -13", x.shift(0, 9, 3, 0, 1), -12);
        x.row(4, 2, 3);
        for (int i = 0; i < 5; i++) {
            x.put(0, i, i + 1);
        }
        int[][] bad = {{-1, 0, 1}, {0, -1, 1}, {0, 0, -1}, {0, 0, 4}, {5, 0, 1}, {0, 3, 1}, {3, 0, 3}, {0, 1, 3}, {6, 0, 0}, {0, 4, 0},
            {Integer.MAX_VALUE, 0, 1}, {1, 0, Integer.MAX_VALUE}, {0, Integer.MAX_VALUE, Integer.MAX_VALUE},
            {0, 0, Integer.MIN_VALUE}};
        for (int[] b : bad) {
            DUE.is("38: shift " + b[0] + ", " + b[1] + ", " + b[2], x.shift(0, b[0], 4, b[1], b[2]), -13);
        }
        DUE.is("38: none at the ends", x.shift(0, 5, 4, 3, 0), 0);
        DUE.is("38: three", x.shift(0, 2, 4, 0, 3), 3);
        int[] due = {3, 4, 5};
        for (int i = 0; i < 3; i++) {
            DUE.is("38: came", x.element(4, i), due[i]);
        }
        DUE.is("38: the same, up", x.shift(0, 0, 0, 1, 4), 4);
        int[] up = {1, 1, 2, 3, 4};
        for (int i = 0; i < 5; i++) {
            DUE.is("38: up", x.element(0, i), up[i]);
        }
        DUE.is("38: the same, down", x.shift(0, 2, 0, 0, 3), 3);
        int[] down = {2, 3, 4, 3, 4};
        for (int i = 0; i < 5; i++) {
            DUE.is("38: down", x.element(0, i), down[i]);
        }
    }

    private static void taken() {
        PalletSky x = new PalletSky();
        int[] above = {-1, 0, 0, 2, 1, 3, 0, 4};
        for (int kind = 0; kind < 8; kind++) {
            x.body(kind);
            x.keep(0, kind);
            boolean[] under = new boolean[8];
            for (int k = kind; k >= 0; k = above[k]) {
                under[k] = true;
            }
            for (int k = 0; k < 8; k++) {
                DUE.is("39: KIND " + kind + " for " + k, x.taken(0, k), under[k] ? kind : -12);
            }
        }
        DUE.is("39: shelf", x.taken(-1, 0), -1);
        DUE.is("39: shelf", x.taken(6, 0), -1);
        DUE.is("39: kind", x.taken(0, -1), -1);
        DUE.is("39: kind", x.taken(0, 8), -1);
        DUE.is("39: nothing", x.taken(1, 0), -11);
        x.row(1, 0, 1);
        DUE.is("39: a ROW", x.taken(1, 0), -12);
    }

    private static void count() {
        PalletSky x = new PalletSky();
        DUE.is("40: below", x.count(-1), -1);
        DUE.is("40: above", x.count(7), -1);
        x.build(52, 44);
        x.build(30, 44);
        x.pane(500);
        x.feed(1);
        x.feed(1);
        x.feed(1);
        x.mend(0, 3, 1);
        x.mend(0, 3, 2);
        x.undo();
        x.body(5);
        x.act(0, 3, 1);
        int[] due = {2, 1, 8, 3, 1, 1, 8};
        for (int what = 0; what < 7; what++) {
            DUE.is("40: count(" + what + ")", x.count(what), due[what]);
        }
    }

    /** From none to as many as there can be. */
    private static void counts() {
        PalletSky x = new PalletSky();
        Due.bytes(x, 0, 9, 0, 0, 0);
        for (int i = 0; i <= 24; i++) {
            DUE.is("40: ROUNDS", x.count(0), i);
            DUE.is("40: PALLETS", x.count(2), 9 * i);
            x.rounds(0, 0, 1);
        }
        DUE.is("40: no more ROUNDS", x.count(0) * 1000 + x.count(2), 24216);
        for (int i = 0; i <= 8; i++) {
            DUE.is("40: PANES", x.count(1), i);
            x.pane(100);
        }
        DUE.is("40: no more PANES", x.count(1), 8);
        for (int i = 0; i <= 40; i++) {
            DUE.is("40: changes", x.count(4), i);
            x.mend(0, 6, i + 1);
        }
        DUE.is("40: no more changes", x.count(4), 40);
        x.undo();
        DUE.is("40: one was UNDONE", x.count(4), 39);
        x.redo();
        DUE.is("40: and DONE AGAIN", x.count(4), 40);
        PalletSky y = new PalletSky();
        for (int i = 0; i <= 120; i++) {
            DUE.is("40: bytes", y.count(3), i);
            y.feed('7');
        }
        DUE.is("40: no more bytes", y.count(3), 120);
        y.law();
        DUE.is("40: none behind law()", y.count(3), 0);
        for (int i = 0; i <= 50; i++) {
            DUE.is("40: BODIES", y.count(5), i);
            y.body(7);
        }
        DUE.is("40: no more BODIES", y.count(5), 50);
        int[] ran = {2, 8, 4, 14};
        for (int act = 0; act < 4; act++) {
            y.act(0, act, 1);
            DUE.is("40: bodies that ran", y.count(6), ran[act]);
        }
        y.act(50, 0, 1);
        DUE.is("40: none ran", y.count(6), 0);
    }
}
