/** Promises 31 to 40. */
public final class ActsTest {
    private static final Due DUE = new Due("ActsTest");

    public static void main(String[] args) {
        body();
        act();
        trace();
        wrap();
        keep();
        row();
        put();
        shift();
        taken();
        count();
        DUE.end();
    }

    private static void body() {
        PalletSky x = new PalletSky();
        DUE.is("31: below", x.body(-1), -1);
        DUE.is("31: above", x.body(8), -1);
        for (int i = 0; i < 50; i++) {
            DUE.is("31: body", x.body(i % 8), i);
        }
        DUE.is("31: FULL", x.body(0), -3);
        DUE.is("31: BAD ahead of FULL", x.body(8), -1);
        DUE.is("31: count", x.count(5), 50);
        DUE.is("31: the last's number", x.act(49, 0, 0), 52);
    }

    /** An act of a body whose number is 3, and the bodies that run. */
    private static void acts(int kind, int act, int x, int due, int... trace) {
        PalletSky p = new PalletSky();
        p.body(0);
        p.body(1);
        p.body(2);
        p.body(kind);
        String call = "act " + act + " of KIND " + kind + " with " + x;
        DUE.is("32: " + call, p.act(3, act, x), due);
        DUE.is("40: " + call, p.count(6), trace.length);
        for (int i = 0; i < trace.length; i++) {
            DUE.is("33: " + call + ", trace(" + i + ")", p.trace(i), trace[i]);
        }
        DUE.is("33: " + call + ", behind", p.trace(trace.length), -1);
        DUE.is("33: " + call + ", ahead", p.trace(-1), -1);
    }

    private static void act() {
        // n is 3; x is 10
        acts(0, 0, 10, 13, 1);
        acts(0, 1, 10, 26, 10, 1);
        acts(0, 2, 10, 9, 11);
        acts(0, 3, 10, 26 - 2, 2, 10, 1, 11);
        acts(1, 0, 10, 16, 20, 1);
        acts(1, 1, 10, 32, 10, 20, 1);
        acts(1, 2, 10, 9, 11);
        acts(1, 3, 10, 30, 2, 10, 20, 1, 11);
        acts(2, 0, 10, 13, 1);
        acts(2, 1, 10, -26, 30, 10, 1);
        acts(2, 2, 10, 9, 11);
        acts(2, 3, 10, -28, 2, 30, 10, 1, 11);
        acts(3, 0, 10, 13, 1);
        acts(3, 1, 10, -28, 41, 30, 10, 1);
        acts(3, 2, 10, 27, 40, 11);
        acts(3, 3, 10, -28 - 6, 2, 41, 30, 10, 1, 40, 11);
        acts(4, 0, 10, 16, 20, 1);
        acts(4, 1, 10, 32, 10, 20, 1);
        acts(4, 2, 10, 9 - 8, 50, 11, 20, 1);
        acts(4, 3, 10, 32 - (2 - 8), 2, 10, 20, 1, 50, 11, 20, 1);
        acts(5, 0, 10, 13, 1);
        acts(5, 1, 10, -28, 41, 30, 10, 1);
        acts(5, 2, 10, 27, 40, 11);
        acts(5, 3, 10, -34 ^ 5, 60, 2, 41, 30, 10, 1, 40, 11);
        acts(6, 0, 10, 26, 70, 1);
        acts(6, 1, 10, 52, 10, 70, 1);
        acts(6, 2, 10, 9, 11);
        acts(6, 3, 10, 50, 2, 10, 70, 1, 11);
        acts(7, 0, 10, 16, 20, 1);
        acts(7, 1, 10, 32 + (1 - 8), 80, 10, 20, 1, 50, 11, 20, 1);
        acts(7, 2, 10, 9 - 8, 50, 11, 20, 1);
        acts(7, 3, 10, 25 - (2 - 8) - 1, 81, 2, 80, 10, 20, 1, 50, 11, 20, 1, 50, 11, 20, 1);
    }

    private static void trace() {
        PalletSky x = new PalletSky();
        DUE.is("33: none yet", x.trace(0), -1);
        DUE.is("32: no ROUND", x.act(0, 0, 5), 0);
        x.body(7);
        x.act(0, 3, 5);
        DUE.is("33: the last", x.trace(13), 1);
        DUE.is("33: behind", x.trace(14), -1);
        int[][] bad = {{1, 0}, {-1, 0}, {0, -1}, {0, 4}, {Integer.MAX_VALUE, 0}};
        for (int[] b : bad) {
            x.act(0, 3, 5);
            DUE.is("40: ran", x.count(6), 14);
            DUE.is("32: no such", x.act(b[0], b[1], 5), 0);
            DUE.is("33: no TRACE", x.trace(0), -1);
            DUE.is("40: none ran", x.count(6), 0);
        }
        DUE.is("33: far off", x.trace(Integer.MAX_VALUE), -1);
        x.act(0, 0, 1);
        DUE.is("33: the latest act", x.trace(0), 20);
        DUE.is("33: the latest act", x.trace(2), -1);
    }

    private static void wrap() {
        PalletSky x = new PalletSky();
        x.body(0);
        x.body(3);
        DUE.is("32: wraps", x.act(1, 0, Integer.MAX_VALUE), Integer.MIN_VALUE);
        DUE.is("32: wraps", x.act(1, 1, Integer.MAX_VALUE), -2 * (Integer.MIN_VALUE + 1));
        DUE.is("32: wraps", x.act(1, 2, Integer.MIN_VALUE), 3 * (Integer.MIN_VALUE ^ 1));
        DUE.is("32: below 0", x.act(0, 2, -1), -1);
    }

    private static void keep() {
        PalletSky x = new PalletSky();
        DUE.is("34: shelf", x.keep(-1, -1), -1);
        DUE.is("34: shelf", x.keep(6, -1), -1);
        DUE.is("34: no body", x.keep(0, 0), -1);
        DUE.is("34: no body", x.keep(0, -2), -1);
        DUE.is("34: nothing", x.keep(5, -1), 1);
        x.body(6);
        DUE.is("34: keep", x.keep(0, 0), 1);
        DUE.is("34: a ROUND", x.taken(0, 6), 6);
        DUE.is("34: no such body", x.keep(0, 1), -1);
        DUE.is("34: it stays", x.taken(0, 6), 6);
        DUE.is("34: nothing", x.keep(0, -1), 1);
        DUE.is("34: nothing is there", x.taken(0, 6), -11);
        x.row(0, 0, 3);
        x.keep(0, -1);
        DUE.is("34: no ROW any more", x.put(0, 0, 1), -11);
        x.row(0, 0, 3);
        x.keep(0, 0);
        DUE.is("34: a ROUND in its place", x.put(0, 0, 1), -12);
    }

    private static void row() {
        PalletSky x = new PalletSky();
        int[][] bad = {{-1, 0, 1}, {6, 0, 1}, {0, -1, 1}, {0, 5, 1}, {0, 0, 61}, {0, 5, -1}, {6, 0, -1}, {0, 0, Integer.MAX_VALUE}};
        for (int[] b : bad) {
            DUE.is("35: row(" + b[0] + ", " + b[1] + ", " + b[2] + ")", x.row(b[0], b[1], b[2]), -1);
        }
        DUE.is("35: a size below 0", x.row(0, 0, -1), -14);
        DUE.is("35: far below", x.row(0, 4, Integer.MIN_VALUE), -14);
        DUE.is("35: nothing is there yet", x.put(0, 0, 1), -11);
        for (int sort = 0; sort <= 4; sort++) {
            DUE.is("35: row", x.row(sort, sort, 60), 1);
            for (int i = 0; i < 60; i++) {
                DUE.is("35: 0 at first", x.element(sort, i), 0);
                x.put(sort, i, 1);
            }
            DUE.is("35: 60 are all", x.put(sort, 60, 1), -13);
            DUE.is("35: another one", x.row(sort, sort, 2), 1);
            DUE.is("35: 0 again", x.element(sort, 0), 0);
            DUE.is("35: 0 again", x.element(sort, 1), 0);
            DUE.is("35: two", x.put(sort, 2, 1), -13);
        }
        DUE.is("35: empty", x.row(5, 3, 0), 1);
        DUE.is("35: no place", x.put(5, 0, 1), -13);
        DUE.is("35: one below 0 changes nothing", x.row(4, 0, -1), -14);
        DUE.is("35: it stays", x.put(4, 1, 1), 1);
    }

    private static void put() {
        PalletSky x = new PalletSky();
        long none = Long.MIN_VALUE;
        DUE.is("36: shelf", x.put(-1, 0, 1), -1);
        DUE.is("36: shelf", x.put(6, 0, 1), -1);
        DUE.is("37: shelf", x.element(-1, 0), none);
        DUE.is("37: shelf", x.element(6, 0), none);
        DUE.is("36: nothing", x.put(0, -1, 1), -11);
        DUE.is("37: nothing", x.element(0, 0), none);
        x.body(0);
        x.keep(0, 0);
        DUE.is("36: a ROUND", x.put(0, -1, 1), -12);
        DUE.is("37: a ROUND", x.element(0, 0), none);
        long[] values = {0, 1, -1, 127, 128, 255, 256, 32767, 32768, 65536, Integer.MAX_VALUE, 1L << 31, 1L << 32, -129, -32769,
            Long.MAX_VALUE, Long.MIN_VALUE, 0x123456789ABCDEFL, 2};
        for (int sort = 0; sort <= 4; sort++) {
            x.row(1, sort, 3);
            DUE.is("36: place", x.put(1, -1, 1), -13);
            DUE.is("36: place", x.put(1, 3, 1), -13);
            DUE.is("36: place", x.put(1, Integer.MAX_VALUE, 1), -13);
            DUE.is("37: place", x.element(1, -1), none);
            DUE.is("37: place", x.element(1, 3), none);
            for (long v : values) {
                long[] due = {(byte) v, (short) v, (int) v, v, v == 0 ? 0 : 1};
                DUE.is("36: put", x.put(1, 2, v), 1);
                DUE.is("37: sort " + sort + " of " + v, x.element(1, 2), due[sort]);
                DUE.is("37: the one beside it", x.element(1, 1), 0);
            }
        }
    }

    private static void shift() {
        PalletSky x = new PalletSky();
        x.row(0, 2, 5);
        DUE.is("38: shelf", x.shift(-1, 0, 0, 0, 1), -1);
        DUE.is("38: shelf", x.shift(0, 0, 6, 0, 1), -1);
        DUE.is("38: nothing", x.shift(0, 0, 1, 0, 1), -11);
        DUE.is("38: nothing", x.shift(1, 0, 0, 0, 1), -11);
        x.body(0);
        x.keep(2, 0);
        DUE.is("38: -11 ahead of -12", x.shift(2, 0, 1, 0, 1), -11);
        DUE.is("38: a ROUND", x.shift(2, 0, 0, 0, 1), -12);
        DUE.is("38: a ROUND", x.shift(0, 0, 2, 0, 1), -12);
        DUE.is("38: ROUNDS", x.shift(2, 0, 2, 0, 1), -12);
        x.row(3, 3, 5);
        DUE.is("38: unlike sorts", x.shift(0, 0, 3, 0, 1), -12);
        DUE.is("38: -12 ahead of -13", x.shift(0, 9, 3, 0, 1), -12);
        x.row(4, 2, 3);
        for (int i = 0; i < 5; i++) {
            x.put(0, i, i + 1);
        }
        int[][] bad = {{-1, 0, 1}, {0, -1, 1}, {0, 0, -1}, {0, 0, 4}, {5, 0, 1}, {0, 3, 1}, {3, 0, 3}, {0, 1, 3}, {6, 0, 0}, {0, 4, 0},
            {Integer.MAX_VALUE, 0, 1}, {1, 0, Integer.MAX_VALUE}, {0, Integer.MAX_VALUE, Integer.MAX_VALUE},
            {0, 0, Integer.MIN_VALUE}};
        for (int[] b : bad) {
            DUE.is("38: shift " + b[0] + ", " + b[1] + ", " + b[2], x.shift(0, b[0], 4, b[1], b[2]), -13);
        }
        DUE.is("38: none at the ends", x.shift(0, 5, 4, 3, 0), 0);
        DUE.is("38: three", x.shift(0, 2, 4, 0, 3), 3);
        int[] due = {3, 4, 5};
        for (int i = 0; i < 3; i++) {
            DUE.is("38: came", x.element(4, i), due[i]);
        }
        DUE.is("38: the same, up", x.shift(0, 0, 0, 1, 4), 4);
        int[] up = {1, 1, 2, 3, 4};
        for (int i = 0; i < 5; i++) {
            DUE.is("38: up", x.element(0, i), up[i]);
        }
        DUE.is("38: the same, down", x.shift(0, 2, 0, 0, 3), 3);
        int[] down = {2, 3, 4, 3, 4};
        for (int i = 0; i < 5; i++) {
            DUE.is("38: down", x.element(0, i), down[i]);
        }
    }

    private static void taken() {
        PalletSky x = new PalletSky();
        int[] above = {-1, 0, 0, 2, 1, 3, 0, 4};
        for (int kind = 0; kind < 8; kind++) {
            x.body(kind);
            x.keep(0, kind);
            boolean[] under = new boolean[8];
            for (int k = kind; k >= 0; k = above[k]) {
                under[k] = true;
            }
            for (int k = 0; k < 8; k++) {
                DUE.is("39: KIND " + kind + " for " + k, x.taken(0, k), under[k] ? kind : -12);
            }
        }
        DUE.is("39: shelf", x.taken(-1, 0), -1);
        DUE.is("39: shelf", x.taken(6, 0), -1);
        DUE.is("39: kind", x.taken(0, -1), -1);
        DUE.is("39: kind", x.taken(0, 8), -1);
        DUE.is("39: nothing", x.taken(1, 0), -11);
        x.row(1, 0, 1);
        DUE.is("39: a ROW", x.taken(1, 0), -12);
    }

    private static void count() {
        PalletSky x = new PalletSky();
        DUE.is("40: below", x.count(-1), -1);
        DUE.is("40: above", x.count(7), -1);
        x.build(52, 44);
        x.build(30, 44);
        x.pane(500);
        x.feed(1);
        x.feed(1);
        x.feed(1);
        x.mend(0, 3, 1);
        x.mend(0, 3, 2);
        x.undo();
        x.body(5);
        x.act(0, 3, 1);
        int[] due = {2, 1, 8, 3, 1, 1, 8};
        for (int what = 0; what < 7; what++) {
            DUE.is("40: count(" + what + ")", x.count(what), due[what]);
        }
    }
}
