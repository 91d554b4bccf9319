/** Promises 1 to 9. */
public final class RoundsTest {
    private static final Due DUE = new Due("RoundsTest");

    public static void main(String[] args) {
        newObject();
        bare();
        ownMemory();
        lastCall();
        build();
        unbuild();
        storeHolds();
        rounds();
        roundsThatEnd();
        pane();
        mend();
        mendAtTheEnds();
        of();
        place();
        feed();
        lawFaults();
        lawBytes();
        lawOpen();
        lawLongest();
        lawStays();
        DUE.end();
    }

    private static void newObject() {
        PalletSky x = new PalletSky();
        int[] place = {0, 0, 200, 3, 20, 10, 0, 120, 0};
        for (int what = 20; what <= 28; what++) {
            DUE.is("1: of(0, " + what + ")", x.of(0, what), place[what - 20]);
        }
        for (int what = 0; what <= 6; what++) {
            DUE.is("1: count(" + what + ")", x.count(what), 0);
        }
        for (int shelf = 0; shelf <= 5; shelf++) {
            DUE.is("1: taken", x.taken(shelf, 0), -11);
        }
        DUE.is("1: falls", x.falls(0), -2);
        DUE.is("1: led", x.led(1), -2);
        DUE.is("1: back", x.back(), -5);
        DUE.is("1: redo", x.redo(), -5);
        DUE.is("1: watch", x.watch(0, 0), 0);
    }

    /** Nothing is there where anything might be. */
    private static void bare() {
        PalletSky x = new PalletSky();
        int no = -2000000000;
        for (int what = 0; what <= 12; what++) {
            DUE.is("1: of a ROUND or PANE", x.of(0, what), no);
        }
        DUE.is("1: unbuild", x.unbuild(), -5);
        DUE.is("1: undo", x.undo(), -5);
        DUE.is("1: straight", x.straight(1, 0), -5);
        DUE.is("1: broad", x.broad(0), -1);
        DUE.is("1: fuel", x.fuel(0, 0), -1);
        DUE.is("1: heat", x.heat(0, 0), -1);
        DUE.is("1: without", x.without(), 0);
        DUE.is("1: boarded", x.boarded(-1), 0);
        DUE.is("1: rival", x.rival(5), 0);
        DUE.is("1: led", x.led(0), 0);
        DUE.is("1: act", x.act(0, 0, 7), 0);
        DUE.is("1: trace", x.trace(0), -1);
        DUE.is("1: an empty TAPE", x.law(), -100);
        for (int shelf = 0; shelf <= 5; shelf++) {
            DUE.is("1: put", x.put(shelf, 0, 1), -11);
            DUE.is("1: element", x.element(shelf, 0), Long.MIN_VALUE);
            DUE.is("1: rounds", x.rounds(shelf, 0, 1), 0);
            DUE.is("1: shift", x.shift(shelf, 0, 0, 0, 0), -11);
        }
    }

    /** All memory is the class's own: what happens to one object is not seen of another. */
    private static void ownMemory() {
        PalletSky x = new PalletSky(), y = new PalletSky();
        x.build(31, 54);
        x.pane(500);
        x.mend(0, 3, 5);
        x.mend(0, 6, 50);
        x.undo();
        Due.told(x, "1");
        x.feed('f');
        x.watch(3, 1);
        x.nights(4, 5);
        x.image();
        x.body(7);
        x.act(0, 3, 1);
        Due.bytes(x, 0, 1, 2, 3);
        PalletSky z = new PalletSky();
        for (int part = 0; part < 2; part++) {
            PalletSky other = part == 0 ? y : z;
            for (int what = 0; what <= 6; what++) {
                DUE.is("1: count of another", other.count(what), 0);
            }
            int[] place = {0, 0, 200, 3, 20, 10, 0, 120, 0};
            for (int what = 20; what <= 28; what++) {
                DUE.is("1: of another", other.of(0, what), place[what - 20]);
            }
            DUE.is("1: WATCHES of another", other.watch(0, 0), 0);
            DUE.is("1: an IMAGE of another", other.back(), -5);
            DUE.is("1: redo of another", other.redo(), -5);
            DUE.is("1: SHELVES of another", other.taken(0, 0), -11);
            other.build(40, 44);
            DUE.is("1: THE LAW of another", other.fuel(0, 0), 45);
        }
        DUE.is("1: the one itself", x.count(0), 1);
        DUE.is("1: the one itself", x.of(0, 20), 5);
    }

    /** An object is good for 512 calls. */
    private static void lastCall() {
        PalletSky x = new PalletSky();
        x.build(99, 44);
        for (int i = 2; i <= 511; i++) {
            x.mend(0, 6, i);
        }
        DUE.is("512: the last call", x.mend(0, 6, 7), 511);
        PalletSky y = new PalletSky();
        for (int i = 1; i <= 511; i++) {
            y.feed('f');
        }
        DUE.is("512: the last call", y.law(), -101);
        PalletSky z = new PalletSky();
        for (int i = 1; i <= 511; i++) {
            DUE.is("512: build and unbuild", i % 2 == 1 ? z.build(20, 44) : z.unbuild(), 0);
        }
        DUE.is("512: the last call", z.count(0), 1);
    }

    private static void build() {
        PalletSky x = new PalletSky();
        int[][] bad = {{9, 44}, {-10, 44}, {100, 44}, {12, 44}, {5, 44}, {10, 90}, {10, 9}, {10, 49}, {10, -1}, {10, 89},
            {Integer.MAX_VALUE, 44}, {10, Integer.MIN_VALUE}};
        for (int[] b : bad) {
            DUE.is("2: build(" + b[0] + ", " + b[1] + ")", x.build(b[0], b[1]), -1);
        }
        DUE.is("2: nothing came", x.count(0), 0);
        DUE.is("2: build", x.build(93, 8), 0);
        DUE.is("2: slip x", x.of(0, 0), -4);
        DUE.is("2: slip y", x.of(0, 1), 4);
        DUE.is("2: damp", x.of(0, 2), 3);
        DUE.is("2: pallets", x.of(0, 3), 9);
        DUE.is("2: dry in store", x.of(0, 24), 14);
        DUE.is("2: damp in store", x.of(0, 25), 7);
        DUE.is("2: all damp", x.build(77, 44), 1);
        DUE.is("2: no damp one left", x.build(11, 44), -5);
        DUE.is("2: one damp one too many", x.build(91, 44), -5);
        DUE.is("2: dry", x.build(90, 44), 2);
        DUE.is("2: dry lacks", x.build(60, 44), -5);
        DUE.is("2: just enough", x.build(50, 44), 3);
        DUE.is("2: none left", x.build(10, 44), -5);
        x = new PalletSky();
        DUE.is("2: the broadest, all damp, slipped back left", x.build(99, 0), 0);
        DUE.is("2: slip x", x.of(0, 0), -4);
        DUE.is("2: slip y", x.of(0, 1), -4);
        DUE.is("2: slipped fore right", x.build(10, 88), 1);
        DUE.is("2: slip x", x.of(1, 0), 4);
        DUE.is("2: slip y", x.of(1, 1), 4);
        DUE.is("2: slipped back right", x.build(10, 80), 2);
        DUE.is("2: slip x", x.of(2, 0), 4);
        DUE.is("2: slip y", x.of(2, 1), -4);
        x = new PalletSky();
        for (int i = 0; i < 20; i++) {
            DUE.is("2: build one", x.build(10, 44), i);
        }
        for (int i = 20; i < 24; i++) {
            DUE.is("2: build a damp one", x.build(11, 44), i);
        }
        DUE.is("2: FULL", x.build(11, 44), -3);
        DUE.is("2: FULL ahead of STATE", x.build(10, 44), -3);
        DUE.is("2: BAD ahead of FULL", x.build(12, 44), -1);
    }

    private static void unbuild() {
        PalletSky x = new PalletSky();
        DUE.is("3: none", x.unbuild(), -5);
        x.build(52, 44);
        x.build(31, 54);
        DUE.is("3: unbuild", x.unbuild(), 1);
        DUE.is("3: dry", x.of(0, 24), 17);
        DUE.is("3: damp", x.of(0, 25), 8);
        DUE.is("3: what is left", x.of(0, 3), 5);
        DUE.is("3: gone", x.of(1, 3), -2000000000);
        x.mend(0, 2, 5);
        DUE.is("3: unbuild as it is damp now", x.unbuild(), 0);
        DUE.is("3: dry as they were", x.of(0, 24), 17);
        DUE.is("3: damp, all five", x.of(0, 25), 13);
        // 99 of each at most
        x = new PalletSky();
        x.mend(0, 7, 0);
        x.nights(1, 30);
        for (int i = 0; i < 30; i++) {
            Due.bytes(x, 0, 9, i % 2 == 0 ? 9 : 0, 0, 0);
            x.rounds(0, 0, 1);
            x.unbuild();
        }
        DUE.is("3: dry at most", x.of(0, 24), 99);
        DUE.is("3: damp at most", x.of(0, 25), 99);
    }

    /** 99 of each at most. */
    private static void storeHolds() {
        int[][] edges = {{0, 99}, {98, 99}, {99, 99}, {99, 98}, {99, 0}, {94, 94}, {95, 95}, {96, 96}, {90, 99}, {99, 90}};
        for (int[] e : edges) {
            for (int d = 0; d <= 9; d += 3) {
                PalletSky x = Due.stored(e[0], e[1]);
                DUE.is("3: dry", x.of(0, 24), e[0]);
                DUE.is("3: damp", x.of(0, 25), e[1]);
                Due.bytes(x, 1, 9, d, 0, 0);
                x.rounds(1, 0, 1);
                DUE.is("3: unbuild", x.unbuild(), 4);
                DUE.is("3: dry, " + e[0] + " and " + (9 - d), x.of(0, 24), Math.min(99, e[0] + 9 - d));
                DUE.is("3: damp, " + e[1] + " and " + d, x.of(0, 25), Math.min(99, e[1] + d));
            }
        }
        // the last of the four ROUNDS gone: none is left, then there is none
        PalletSky x = Due.stored(0, 0);
        for (int left = 3; left >= 0; left--) {
            DUE.is("3: how many are left", x.unbuild(), left);
        }
        DUE.is("3: there is none", x.unbuild(), -5);
        DUE.is("3: all is back", x.of(0, 24) * 100 + x.of(0, 25), 2010);
    }

    private static void rounds() {
        PalletSky x = new PalletSky();
        DUE.is("4: shelf", x.rounds(-1, 0, 1), -1);
        DUE.is("4: shelf", x.rounds(6, 0, 1), -1);
        DUE.is("4: n", x.rounds(0, 0, 0), -1);
        DUE.is("4: n", x.rounds(0, 0, 16), -1);
        DUE.is("4: missing", x.rounds(0, 0, 15), 0);
        DUE.is("4: missing, and no such place", x.rounds(0, -9, 1), 0);
        for (int sort = 1; sort <= 4; sort++) {
            x.row(0, sort, 4);
            DUE.is("4: no bytes", x.rounds(0, 0, 1), -12);
        }
        x.body(0);
        x.keep(0, 0);
        DUE.is("4: a ROUND", x.rounds(0, 0, 1), -12);
        Due.bytes(x, 1, 77, 9, 9, -4, 4, 1, 0, 4, -4, 5, 2, 1);
        DUE.is("4: not so", x.rounds(1, 0, 2), 0);
        DUE.is("4: a place that is not there", x.rounds(1, -1, 2), 0);
        DUE.is("4: far out", x.rounds(1, Integer.MAX_VALUE, 2), 0);
        DUE.is("4: far out", x.rounds(1, Integer.MIN_VALUE, 2), 0);
        DUE.is("4: behind", x.rounds(1, 12, 2), 0);
        DUE.is("4: one only", x.rounds(1, 1, 1), 1);
        DUE.is("4: ends within a four", x.rounds(1, 1, 3), 2);
        DUE.is("4: count", x.count(0), 3);
        int[] due = {4, -4, 0, 1, 0, 0};
        for (int what = 0; what < 4; what++) {
            DUE.is("4: of(2, " + what + ")", x.of(2, what), due[what]);
        }
        DUE.is("4: store", x.of(0, 24), 20);
        int[][] wrong = {{0, 0, 0, 0}, {10, 0, 0, 0}, {3, 4, 0, 0}, {3, -1, 0, 0}, {3, 0, 5, 0}, {3, 0, -5, 0}, {3, 0, 0, 5},
            {3, 0, 0, -5}, {-1, 0, 0, 0}};
        for (int[] w : wrong) {
            Due.bytes(x, 2, 2, 2, 1, 1, w[0], w[1], w[2], w[3], 2, 2, 1, 1);
            DUE.is("4: one is not so", x.rounds(2, 0, 3), 1);
            x.unbuild();
        }
        int[] many = new int[60];
        for (int i = 0; i < 60; i += 4) {
            many[i] = 1;
        }
        x = new PalletSky();
        Due.bytes(x, 0, many);
        DUE.is("4: fifteen", x.rounds(0, 0, 15), 15);
        DUE.is("4: till FULL", x.rounds(0, 0, 15), 9);
        DUE.is("4: FULL", x.rounds(0, 0, 15), 0);
        DUE.is("4: all", x.count(0), 24);
    }

    /** It ends where the ROW is missing, ends, one is not so, or ROUNDS are FULL: those ahead came. */
    private static void roundsThatEnd() {
        // within a four: 1, 2, 3 of it, and the whole of it
        for (int n = 0; n <= 12; n++) {
            for (int i = 0; i <= 13; i++) {
                PalletSky x = new PalletSky();
                int[] ones = new int[n];
                java.util.Arrays.fill(ones, 1);
                Due.bytes(x, 3, ones);
                DUE.is("4: " + n + " bytes from " + i, x.rounds(3, i, 15), Math.max(0, n - i) / 4);
                DUE.is("4: they came", x.count(0), Math.max(0, n - i) / 4);
            }
        }
        // no more than n, though there are more
        for (int n = 1; n <= 15; n++) {
            PalletSky x = new PalletSky();
            int[] ones = new int[60];
            java.util.Arrays.fill(ones, 1);
            Due.bytes(x, 3, ones);
            DUE.is("4: n of them", x.rounds(3, 0, n), n);
            DUE.is("4: till the ROW ends", x.rounds(3, 4 * n, 15), 15 - n);
        }
        // FULL: 22, 23, 24 are there
        for (int there = 20; there <= 24; there++) {
            PalletSky x = new PalletSky();
            Due.bytes(x, 0, 1, 0, 0, 0, 2, 0, 0, 0);
            for (int i = 0; i < there; i++) {
                x.rounds(0, 0, 1);
            }
            DUE.is("4: two more on " + there, x.rounds(0, 0, 2), Math.min(2, 24 - there));
            DUE.is("4: count", x.count(0), Math.min(24, there + 2));
            DUE.is("4: the topmost", x.of(x.count(0) - 1, 3), there == 23 || there == 24 ? 1 : 2);
        }
        // STORE does not matter: it has none, and none is taken
        PalletSky x = Due.stored(0, 0);
        Due.bytes(x, 0, 9, 9, 0, 0, 9, 0, 0, 0);
        DUE.is("4: STORE does not matter", x.rounds(0, 0, 2), 2);
        DUE.is("4: STORE", x.of(0, 24) + x.of(0, 25), 0);
        // the ROW stays
        DUE.is("4: the ROW stays", x.element(0, 0), 9);
        // an empty ROW ends at once
        x.row(0, 0, 0);
        DUE.is("4: an empty ROW", x.rounds(0, 0, 1), 0);
    }

    private static void pane() {
        PalletSky x = new PalletSky();
        int[] bad = {-1, 0, 99, 124, 199, 10000, 9924, -100, Integer.MAX_VALUE, Integer.MIN_VALUE};
        for (int fu : bad) {
            DUE.is("5: pane(" + fu + ")", x.pane(fu), -1);
        }
        int[] good = {100, 123, 9923, 9900, 1205, 300, 400, 500};
        for (int i = 0; i < 8; i++) {
            DUE.is("5: pane(" + good[i] + ")", x.pane(good[i]), i);
            DUE.is("5: far", x.of(i, 10), good[i] / 100);
            DUE.is("5: up", x.of(i, 11), good[i] % 100);
            DUE.is("5: boards", x.of(i, 12), 0);
        }
        DUE.is("5: FULL", x.pane(100), -3);
        DUE.is("5: BAD ahead of FULL", x.pane(99), -1);
        DUE.is("5: count", x.count(1), 8);
    }

    private static void mend() {
        PalletSky x = new PalletSky();
        x.build(32, 44);
        x.pane(500);
        int no = -2000000000;
        // number, what, lowest, highest, what it is
        int[][] ways = {{0, 0, -4, 4, 0}, {0, 1, -4, 4, 0}, {0, 2, 0, 3, 2}, {0, 3, -9, 9, 0}, {0, 4, -9, 9, 0}, {0, 5, 0, 9, 0},
            {0, 6, 1, 999, 200}, {0, 7, 0, 12, 3}};
        int[] asked = {0, 1, 2, 20, 21, 12, 22, 23};
        for (int[] w : ways) {
            String call = "6: mend what " + w[1];
            DUE.is(call + " below", x.mend(0, w[1], w[2] - 1), no);
            DUE.is(call + " above", x.mend(0, w[1], w[3] + 1), no);
            DUE.is(call + " not there", x.mend(1, w[1], w[2]), no);
            DUE.is(call + " not there", x.mend(-1, w[1], w[2]), no);
            DUE.is(call + " as before", x.of(0, asked[w[1]]), w[4]);
            DUE.is(call + " lowest", x.mend(0, w[1], w[2]), w[4]);
            DUE.is(call + " is", x.of(0, asked[w[1]]), w[2]);
            DUE.is(call + " highest", x.mend(0, w[1], w[3]), w[2]);
            DUE.is(call + " is", x.of(0, asked[w[1]]), w[3]);
        }
        DUE.is("6: no such", x.mend(0, 8, 1), no);
        DUE.is("6: no such", x.mend(0, -1, 1), no);
        DUE.is("6: far off", x.mend(0, 6, Integer.MAX_VALUE), no);
        DUE.is("6: far off", x.mend(Integer.MIN_VALUE, 0, 0), no);
        // no STORE has to do with it
        DUE.is("6: store", x.of(0, 25), 8);
    }

    /** The last ROUND and the last PANE, and what is behind them. */
    private static void mendAtTheEnds() {
        int no = -2000000000;
        int[] fours = new int[96];
        for (int i = 0; i < 96; i += 4) {
            fours[i] = i == 92 ? 1 : 9;
        }
        PalletSky x = Due.stack(fours);
        for (int i = 0; i < 8; i++) {
            x.pane(500);
        }
        for (int what = 0; what <= 2; what++) {
            DUE.is("6: ROUND 23", x.mend(23, what, 1), 0);
            DUE.is("6: ROUND 24", x.mend(24, what, 1), no);
            DUE.is("6: ROUND -1", x.mend(-1, what, 1), no);
            DUE.is("6: ROUND 0", x.mend(0, what, 0), 0);
        }
        DUE.is("6: DAMP of one PALLET", x.mend(23, 2, 2), no);
        DUE.is("6: DAMP of nine PALLETS", x.mend(22, 2, 9), 0);
        DUE.is("6: DAMP of nine PALLETS", x.mend(22, 2, 10), no);
        DUE.is("6: PANE 7", x.mend(7, 5, 9), 0);
        DUE.is("6: PANE 8", x.mend(8, 5, 9), no);
        DUE.is("6: the PANE beside it", x.of(6, 12), 0);
        // a SLIP moves the MIDDLE of a ROUND and of all above it
        x.mend(11, 0, -3);
        for (int i = 0; i < 24; i++) {
            DUE.is("6: MIDDLE x", x.of(i, 4), i < 11 ? 0 : i < 23 ? -3 : -2);
            DUE.is("6: MIDDLE y", x.of(i, 5), i < 23 ? 0 : 1);
        }
        // all SLIPS to one side: the farthest MIDDLES
        for (int i = 0; i < 24; i++) {
            x.mend(i, 0, -4);
            x.mend(i, 1, 4);
        }
        DUE.is("6: the farthest MIDDLE", x.of(23, 4), -96);
        DUE.is("6: the farthest MIDDLE", x.of(23, 5), 96);
        DUE.is("6: SLIP", x.of(23, 0), -4);
        DUE.is("6: SLIP", x.of(23, 1), 4);
        // of all these changes
        DUE.is("6: 40 changes at most", x.count(4), 40);
    }

    private static void of() {
        PalletSky x = Due.stack(4, 2, 1, -2, 3, 1, 2, 3, 2, 0, -4, 0);
        int no = -2000000000;
        int[][] due = {{1, -2, 2, 4, 1, -2, 0}, {2, 3, 1, 3, 3, 1, 0}, {-4, 0, 0, 2, -1, 1, 1}};
        for (int i = 0; i < 3; i++) {
            for (int what = 0; what < 7; what++) {
                DUE.is("7: of(" + i + ", " + what + ")", x.of(i, what), due[i][what]);
            }
        }
        int[][] bad = {{3, 0}, {-1, 0}, {0, 7}, {0, 9}, {0, 10}, {0, 13}, {0, 19}, {1, 20}, {-1, 28}, {0, 29}, {0, -1},
            {0, Integer.MAX_VALUE}, {Integer.MAX_VALUE, 3}};
        for (int[] b : bad) {
            DUE.is("7: of(" + b[0] + ", " + b[1] + ")", x.of(b[0], b[1]), no);
        }
        DUE.is("7: HIGH", x.of(0, 26), 15);
        x.pane(9900);
        DUE.is("7: MAY BE, no bound above", x.of(0, 27), 297);
        x.pane(1405);
        x.pane(2000);
        DUE.is("7: MAY BE, the nearest", x.of(0, 27), 42);
        DUE.is("7: no such pane", x.of(3, 10), no);
        DUE.is("7: no such what", x.of(0, 13), no);
        DUE.is("7: no such what", x.of(0, 9), no);
        x.nights(3, 7);
        DUE.is("7: nights gone", x.of(0, 28), 7);
        // PUSH on ROUND 1 is 6 * 2 * (-4) and it bears 3 * 3 * 2; wind against it helps
        x.mend(0, 3, 9);
        x.mend(2, 0, -3);
        DUE.is("7: HOLDS not by 36 - 9 against 18", x.of(1, 6), 0);
        x.mend(2, 0, -2);
        DUE.is("7: HOLDS by 24 - 9", x.of(1, 6), 1);
        x.mend(0, 3, 6);
        DUE.is("7: HOLDS by just 18", x.of(1, 6), 1);
        x.mend(0, 3, 5);
        DUE.is("7: HOLDS not by 19", x.of(1, 6), 0);
        x.mend(0, 3, 9);
        x.mend(2, 1, 2);
        DUE.is("7: HOLDS not fore and back", x.of(1, 6), 0);
    }

    /** HIGH and MAY BE from the least to the most. */
    private static void place() {
        PalletSky x = new PalletSky();
        Due.bytes(x, 0, 1, 0, 0, 0);
        for (int i = 0; i <= 24; i++) {
            DUE.is("7: HIGH of " + i, x.of(0, 26), 5 * i);
            x.rounds(0, 0, 1);
        }
        DUE.is("7: no higher", x.of(0, 26), 120);
        for (int far = 1; far <= 99; far++) {
            PalletSky y = new PalletSky();
            DUE.is("7: MAY BE without PANES", y.of(0, 27), 120);
            y.pane(100 * far + 23);
            DUE.is("7: MAY BE", y.of(0, 27), 3 * far);
            y.pane(9900);
            DUE.is("7: MAY BE for the nearest", y.of(0, 27), 3 * far);
            y.pane(100);
            DUE.is("7: MAY BE for the nearest", y.of(0, 27), 3);
        }
        // the topmost ROUND bears none: it HOLDS in any WIND
        x.mend(0, 3, 9);
        x.mend(0, 4, -9);
        DUE.is("7: the topmost HOLDS", x.of(23, 6), 1);
        DUE.is("7: ROUND 22 of one does not", x.of(22, 6), 0);
    }

    private static void feed() {
        PalletSky x = new PalletSky();
        DUE.is("8: below", x.feed(-1), -1);
        DUE.is("8: above", x.feed(256), -1);
        DUE.is("8: count", x.count(3), 0);
        DUE.is("8: lowest", x.feed(0), 1);
        DUE.is("8: highest", x.feed(255), 2);
        for (int i = 3; i <= 120; i++) {
            DUE.is("8: feed", x.feed('f'), i);
        }
        DUE.is("8: FULL", x.feed('f'), -3);
        DUE.is("8: BAD ahead of FULL", x.feed(256), -1);
        DUE.is("8: count", x.count(3), 120);
    }

    private static void fault(String text, int due) {
        PalletSky x = new PalletSky();
        DUE.is("9: law " + text, Due.told(x, text), due < 0 ? 1 : -100 - due);
        DUE.is("9: THE TAPE is empty", x.count(3), 0);
    }

    private static void lawFaults() {
        fault("", 0);
        String[] good = {"f", "0", "9999", "0000", "f+p-d*k/m%w", "1?2", "1?2;3;4?5", "a".replace('a', 'w'), "!!!!!!f", "------f",
            "((((((f))))))", "!-(!-(1))", "1--1", "1<2&3>4|5=6", "(1<2)<3", "1<2?3<4", "(1)*(2)", "!1?2", "0|!f&-p",
            "!!!!!!f+!!!!!!f", "!!!!!!1?------f;((((((2))))))", "!(-!(-1))?-(!-(!1))"};
        for (String text : good) {
            fault(text, -1);
        }
        // a text, and where its first wrong byte is (or its length)
        String[] texts = {"f?", "12345", "1<2<3", "1=2>3", "1?2?3", "(1?2)", "(1;2)", "()", "f)", "f;", ";f", "f;;f", " f", "f p",
            "1+", "1+*2", "fp", "2f", "f2", "(f", "!!!!!!!f", "-------f", "(((((((f", "!-!-!-(1)", "((((((!f", "x", "F", "1?;2",
            "+1", "f=!", "f,", "1?2;3)", "(1<2<3)", "1+(2*3", "!", "?1"};
        int[] due = {2, 5 - 1, 3, 3, 3, 2, 2, 1, 1, 2, 0, 2, 0, 1, 2, 2, 1, 1, 1, 2, 6, 6, 6, 6, 6, 0, 0, 2, 0, 3, 1, 5, 4, 6, 1,
            0};
        for (int i = 0; i < texts.length; i++) {
            fault(texts[i], due[i]);
        }
        fault("f" + (char) 233, 1);
        fault("f" + (char) 0, 1);
        fault("" + (char) 255, 0);
        StringBuilder longest = new StringBuilder("f");
        while (longest.length() + 2 <= 119) {
            longest.append("+f");
        }
        fault(longest.toString(), -1);
        fault(longest.append("+").toString(), 120);
    }

    private static boolean isOf(String signs, int letter) {
        return letter > 0 && letter < 128 && signs.indexOf(letter) >= 0;
    }

    /** Each byte alone and behind a beginning: with it the text goes on, ends well, or has its FAULT there. */
    private static void lawBytes() {
        String operands = "0123456789fpdkmw", prefixes = "(!-", joins = "|&+-*/%", compares = "<=>";
        // behind these an operand is due
        String[] open = {"", "!", "-", "f+", "f*", "f|", "f&", "f<", "f=", "f>", "f-", "f/", "f%", "f?", "f;", "f?f;"};
        for (String text : open) {
            for (int letter = 0; letter <= 255; letter++) {
                int due = isOf(operands, letter) ? -1 : isOf(prefixes, letter) ? text.length() + 1 : text.length();
                fault(text + (char) letter, due);
            }
        }
        // behind these an operand has ended; what more may come
        String[] ended = {"f", "1234", "f?f", "f<f", "(f", "(f<f", "f<f|f", "(f)", "0?(1)", "f;f", "f?f;f", "f?f<f"};
        String[] more = {compares + "?;", compares + "?;", compares + ";", "?;", compares + ")", ")", compares + "?;",
            compares + "?;", compares + ";", compares + "?;", compares + "?;", ";"};
        for (int i = 0; i < ended.length; i++) {
            String text = ended[i];
            for (int letter = 0; letter <= 255; letter++) {
                boolean good = isOf(more[i], letter) && letter == ')';
                boolean on = isOf(joins + more[i], letter);
                fault(text + (char) letter, good ? -1 : on ? text.length() + 1 : text.length());
            }
        }
        // a number has 1 to 4 digits, wherever it stands
        String[] ahead = {"", "f+", "(", "!", "f?", "1;", "1234*"};
        for (String text : ahead) {
            String end = text.equals("(") ? ")" : "";
            fault(text + "0" + end, -1);
            fault(text + "9876" + end, -1);
            fault(text + "98765" + end, text.length() + 4);
            fault(text + "00000" + end, text.length() + 4);
        }
    }

    /** At most 6 of ( ! - ahead of an O are open at once. */
    private static void lawOpen() {
        for (int bits = 0; bits < 3 * 3 * 3 * 3 * 3 * 3 * 3; bits++) {
            StringBuilder signs = new StringBuilder(), close = new StringBuilder();
            for (int i = 0, rest = bits; i < 7; i++, rest /= 3) {
                signs.append("(!-".charAt(rest % 3));
                if (i < 6 && rest % 3 == 0) {
                    close.append(')');
                }
            }
            if (bits < 729) {
                fault(signs.substring(0, 6) + "f" + close, -1);
            }
            fault(signs + "f", 6);
            fault("f?f*" + signs + "f", 10);
        }
        // those that are closed again do not count, those around do
        fault("((((((f)))))+(((((f))))))", -1);
        fault("((((((f)))))+((((((f", 18);
        fault("!(!!!!f)", -1);
        fault("!(!!!!!f)", 6);
        fault("-(f+----f)*!!!!!!f", -1);
        fault("-(f+-----f)", 8);
        fault("((((((f))))))<((((((f))))))?------f;!!!!!!f", -1);
        fault("(1+(2+(3+(4+(5+(6))))))", -1);
        fault("(1+(2+(3+(4+(5+(6+(7", 18);
        fault("(1+(2+(3+(4+(5+(6+-7", 18);
        // between two operands - is no such sign
        fault("((((((f-f))))))", -1);
        fault("((((((f--f", 8);
    }

    /** At most 120 bytes. */
    private static void lawLongest() {
        StringBuilder text = new StringBuilder("f");
        while (text.length() < 119) {
            text.append("+f");
        }
        fault(text.toString(), -1);
        fault(text + ";", 120);
        fault(text + "f", 119);
        text.insert(0, '-');
        DUE.is("9: 120 bytes", text.length(), 120);
        fault(text.toString(), -1);
        text.setCharAt(119, ')');
        fault(text.toString(), 119);
        // what does not fit on THE TAPE is not read
        text.setCharAt(119, 'p');
        fault(text + ")", -1);
        StringBuilder early = new StringBuilder("(");
        while (early.length() < 120) {
            early.append(early.length() % 2 == 1 ? 'f' : '+');
        }
        fault(early + ")", 120);
        // the most LINES
        StringBuilder lines = new StringBuilder("1");
        while (lines.length() < 119) {
            lines.append(";1");
        }
        fault(lines.toString(), -1);
    }

    private static void lawStays() {
        PalletSky x = Due.stack(3, 0, 0, 0);
        DUE.is("9: law", Due.told(x, "5"), 1);
        DUE.is("9: it counts", x.fuel(0, 0), 31);
        DUE.is("9: a FAULT", Due.told(x, "9;"), -102);
        DUE.is("9: the law before it counts", x.fuel(0, 0), 31);
        x.mend(0, 2, 3);
        DUE.is("9: and of another FUEL", x.fuel(0, 0), 19);
        DUE.is("9: a FAULT ahead of all", Due.told(x, ";9"), -100);
        x.mend(0, 2, 0);
        DUE.is("9: the law before it counts", x.fuel(0, 0), 31);
        DUE.is("9: another law", Due.told(x, "7"), 1);
        DUE.is("9: it counts", x.fuel(0, 0), 29);
    }
}
