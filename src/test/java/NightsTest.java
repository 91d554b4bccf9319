/** Promises 21 to 30. */
public final class NightsTest {
    private static final Due DUE = new Due("NightsTest");

    // What three draws a night give, by % 12, % 6, % 12, of SEED 99.
    private static final int[][] DRAWN = {{8, 1, 5}, {11, 2, 9}, {5, 0, 11}, {6, 0, 7}, {11, 2, 8}, {0, 3, 6}, {6, 4, 10},
        {2, 5, 6}, {2, 1, 5}, {4, 1, 8}, {1, 4, 10}, {3, 3, 1}, {10, 2, 1}, {8, 1, 5}, {8, 3, 3}, {7, 3, 4}, {7, 1, 11},
        {8, 1, 11}, {4, 2, 9}, {0, 4, 10}};

    public static void main(String[] args) {
        watch();
        watchAtTheEnds();
        nights();
        seeds();
        thievesComeToNothing();
        storeHolds();
        best();
        bestOfSeeds();
        rival();
        rivalOfSeeds();
        judge();
        judgeByBytes();
        judgeMinutes();
        ledAndImage();
        imageOfAll();
        undo();
        theSameIsNone();
        redo();
        fortyAtMost();
        roundsThatAreNotThere();
        DUE.end();
    }

    private static void watch() {
        PalletSky x = new PalletSky();
        int[][] bad = {{-1, 1}, {30, 1}, {0, 2}, {0, -1}, {Integer.MAX_VALUE, 0}};
        for (int[] b : bad) {
            DUE.is("21: watch(" + b[0] + ", " + b[1] + ")", x.watch(b[0], b[1]), -1);
        }
        for (int i = 0; i < 30; i++) {
            DUE.is("21: watch", x.watch(i, 1), i + 1);
        }
        DUE.is("21: again", x.watch(29, 1), 30);
        DUE.is("21: not", x.watch(7, 0), 29);
        DUE.is("21: not again", x.watch(7, 0), 29);
    }

    /** The first night and the last of 30. */
    private static void watchAtTheEnds() {
        for (int watched = -1; watched < 30; watched += watched < 0 ? 1 : 29) {
            PalletSky x = new PalletSky();
            x.mend(0, 7, 12);
            if (watched >= 0) {
                x.watch(watched, 1);
            }
            for (int night = 0; night < 30; night++) {
                int ahead = x.of(0, 24);
                int full = ahead + 8;
                DUE.is("22: night " + night + ", watched " + watched, x.nights(99, 1), full - (night == watched ? 0 : full / 2));
            }
            DUE.is("26: the latest", x.led(1), watched == 29 ? 28 : 29);
        }
    }

    /** A SEED's draws by longs that do not wrap. */
    private static final class Draws {
        private long z;

        Draws(int seed) {
            z = seed & 0xffffffffL;
        }

        int next(int below) {
            z = (z * 1103515245L + 12345L) & 0xffffffffL;
            return (int) ((z >> 8) % below);
        }
    }

    private static final int[] SEEDS = {0, 1, -1, 99, Integer.MIN_VALUE, Integer.MIN_VALUE + 1, Integer.MAX_VALUE,
        Integer.MAX_VALUE - 1, 1 << 30, -1 << 30, 1 << 24, 255, 256, -256, 1103515245, -12345, 123456789, -987654321};

    /** dry, damp, stolen, latest night by draws, from what is told. */
    private static int[] passed(int seed, int n, int thieves, int watches, int[] from, int gone) {
        Draws draws = new Draws(seed);
        int[] now = from.clone();
        for (int i = 0; i < n; i++) {
            now[0] = Math.min(99, now[0] + draws.next(12));
            now[1] = Math.min(99, now[1] + draws.next(6));
            if (draws.next(12) < thieves && (watches >> gone + i & 1) == 0) {
                now[2] += now[0] / 2;
                now[0] -= now[0] / 2;
                now[3] = gone + i;
            }
        }
        return now;
    }

    /** z wraps, and is drawn from without its sign. */
    private static void seeds() {
        for (int seed : SEEDS) {
            for (int thieves = 0; thieves <= 12; thieves++) {
                PalletSky x = new PalletSky();
                x.mend(0, 7, thieves);
                x.watch(2, 1);
                x.watch(29, 1);
                int[] now = {20, 10, 0, -2};
                int gone = 0;
                for (int n : new int[] {1, 3, 6, 20}) {
                    now = passed(seed, n, thieves, 1 << 2 | 1 << 29, now, gone);
                    gone += n;
                    DUE.is("22: nights(" + seed + ", " + n + ") with " + thieves, x.nights(seed, n), now[0]);
                    DUE.is("22: damp", x.of(0, 25), now[1]);
                    DUE.is("26: stolen", x.led(0), now[2]);
                    DUE.is("26: latest", x.led(1), now[3]);
                    DUE.is("22: gone", x.of(0, 28), gone);
                }
            }
        }
    }

    /** Half of the dry ones, cut: of none and of one none is stolen, of three one. */
    private static void thievesComeToNothing() {
        int[] found = {0, 0, 0};
        for (int seed = 0; found[0] + found[1] + found[2] < 3; seed++) {
            Draws draws = new Draws(seed);
            int dry = draws.next(12), rest = dry == 0 ? 0 : dry == 1 ? 1 : dry == 3 ? 2 : -1;
            draws.next(6);
            if (rest < 0 || found[rest] == 1 || draws.next(12) > 10) {
                continue;
            }
            found[rest] = 1;
            PalletSky x = Due.stored(0, 0);
            x.mend(0, 7, 11);
            DUE.is("22: half of " + dry + ", cut", x.nights(seed, 1), dry - dry / 2);
            DUE.is("26: stolen of " + dry, x.led(0), dry / 2);
            DUE.is("26: a night with thieves", x.led(1), 0);
        }
        DUE.is("22: of none, of one, of three", found[0] + found[1] + found[2], 3);
    }

    /** 99 of each at most, then thieves take half of 99. */
    private static void storeHolds() {
        for (int ahead = 80; ahead <= 99; ahead++) {
            PalletSky x = Due.stored(ahead, ahead);
            x.mend(0, 7, 0);
            Draws draws = new Draws(7);
            int dry = draws.next(12), damp = draws.next(6);
            DUE.is("22: dry on " + ahead, x.nights(7, 1), Math.min(99, ahead + dry));
            DUE.is("22: damp on " + ahead, x.of(0, 25), Math.min(99, ahead + damp));
        }
        PalletSky x = Due.stored(99, 99);
        x.mend(0, 7, 12);
        DUE.is("22: 49 of 99 are stolen", x.nights(99, 1), 50);
        DUE.is("22: damp ones are not", x.of(0, 25), 99);
        DUE.is("26: 49", x.led(0), 49);
    }

    /** Goes through nights of SEED 99 by the table. */
    private static void told(int n, int thieves, int watches) {
        PalletSky x = new PalletSky();
        x.mend(0, 7, thieves);
        for (int i = 0; i < 30; i++) {
            x.watch(i, watches >> i & 1);
        }
        int dry = 20, damp = 10, stolen = 0, latest = -2;
        for (int i = 0; i < n; i++) {
            dry = Math.min(99, dry + DRAWN[i][0]);
            damp = Math.min(99, damp + DRAWN[i][1]);
            if (DRAWN[i][2] < thieves && (watches >> i & 1) == 0) {
                stolen += dry / 2;
                dry -= dry / 2;
                latest = i;
            }
        }
        String call = "22: nights(99, " + n + ") with " + thieves + ": ";
        DUE.is(call, x.nights(99, n), dry);
        DUE.is(call + "dry", x.of(0, 24), dry);
        DUE.is(call + "damp", x.of(0, 25), damp);
        DUE.is(call + "gone", x.of(0, 28), n);
        DUE.is("26: stolen", x.led(0), stolen);
        DUE.is("26: latest", x.led(1), latest);
    }

    private static void nights() {
        for (int n = 1; n <= 20; n++) {
            for (int thieves = 0; thieves <= 12; thieves += 3) {
                told(n, thieves, 0);
                told(n, thieves, 1 << 11 | 1 << 3);
            }
        }
        PalletSky x = new PalletSky();
        DUE.is("22: n", x.nights(1, 0), -1);
        DUE.is("22: n", x.nights(1, 31), -1);
        DUE.is("22: n", x.nights(1, Integer.MIN_VALUE), -1);
        x.mend(0, 7, 0);
        DUE.is("22: 99 at most", x.nights(99, 29), 99);
        DUE.is("22: two are too many", x.nights(99, 2), -5);
        DUE.is("22: BAD ahead of STATE", x.nights(99, 31), -1);
        DUE.is("22: thirty", new PalletSky().nights(99, 30) >= 0 ? 1 : 0, 1);
        DUE.is("22: gone", x.of(0, 28), 29);
        DUE.is("22: the last one", x.nights(99, 1), 99);
        DUE.is("22: none is left", x.nights(99, 1), -5);
        DUE.is("22: n", x.nights(1, 0), -1);
        // nights count from the first, not from the call on; each call begins with its own SEED
        x = new PalletSky();
        x.mend(0, 7, 12);
        x.watch(2, 1);
        x.watch(30, 1);
        DUE.is("22: 28: 14 stolen; 25: 12 stolen", x.nights(99, 2), 13);
        DUE.is("22: night 2 is watched; 21 + 11: half", x.nights(99, 2), 16);
        DUE.is("26: the latest", x.led(1), 3);
        DUE.is("26: how many", x.led(0), 14 + 12 + 16);
        DUE.is("22: any SEED", x.nights(Integer.MIN_VALUE, 1) >= 0 ? 1 : 0, 1);
    }

    private static void best() {
        PalletSky x = new PalletSky();
        int[][] bad = {{0, 0}, {31, 0}, {1, 2}, {1, -1}, {-1, 0}, {Integer.MAX_VALUE, 0}};
        for (int[] b : bad) {
            DUE.is("23: best(99, " + b[0] + ", " + b[1] + ")", x.best(99, b[0], b[1]), -1);
        }
        DUE.is("23: one night", x.best(99, 1, 0), 0);
        DUE.is("23: one night", x.best(99, 1, 1), 28);
        // thieves below 3 in nights 11 and 12
        DUE.is("23: of like ones the first", x.best(99, 11, 0), 0);
        DUE.is("23: none is stolen", x.best(99, 11, 1), 20 + 8 + 11 + 5 + 6 + 11 + 6 + 2 + 2 + 4 + 1);
        DUE.is("23: 79 in night 11", x.best(99, 12, 0), 11);
        DUE.is("23: 79", x.best(99, 12, 1), 79);
        DUE.is("23: 89 - 44 by 11, 40 + 10 by 12", x.best(99, 13, 0), 12);
        DUE.is("23: 50", x.best(99, 13, 1), 50);
        x.watch(12, 1);
        DUE.is("23: besides 12", x.best(99, 13, 0), 11);
        DUE.is("23: 79 + 10", x.best(99, 13, 1), 89);
        x.watch(11, 1);
        DUE.is("23: all are watched", x.best(99, 13, 1), 89);
        DUE.is("23: in thought", x.of(0, 28), 0);
        DUE.is("23: in thought", x.watch(11, 1), 2);
        // from now on
        x = new PalletSky();
        x.mend(0, 7, 12);
        x.nights(99, 27);
        int dry = x.of(0, 24);
        DUE.is("23: three are left", x.best(99, 4, 0), -1);
        int[] each = new int[3];
        for (int i = 0; i < 3; i++) {
            int now = dry;
            for (int j = 0; j < 3; j++) {
                now += DRAWN[j][0];
                now -= i == j ? 0 : now / 2;
            }
            each[i] = now;
        }
        int most = Math.max(each[0], Math.max(each[1], each[2]));
        DUE.is("23: how many", x.best(99, 3, 1), most);
        DUE.is("23: which", x.best(99, 3, 0), 27 + (each[0] == most ? 0 : each[1] == most ? 1 : 2));
        x.nights(99, 3);
        DUE.is("23: none is left", x.best(99, 1, 0), -1);
    }

    /** Of 1 night to all that are left, with any SEED. */
    private static void bestOfSeeds() {
        for (int seed : SEEDS) {
            for (int gone = 0; gone < 30; gone += 7) {
                PalletSky x = new PalletSky();
                x.mend(0, 7, 6);
                x.watch(gone + 1, 1);
                if (gone > 0) {
                    x.nights(5, gone);
                }
                int watches = 1 << gone + 1;
                int[] from = {x.of(0, 24), x.of(0, 25), 0, -2};
                for (int n : new int[] {1, 2, 30 - gone}) {
                    int most = -1, night = -1;
                    for (int i = Math.min(n, 30 - gone) - 1; i >= 0; i--) {
                        int dry = passed(seed, n, 6, watches | 1 << gone + i, from, gone)[0];
                        if (dry >= most) {
                            most = dry;
                            night = gone + i;
                        }
                    }
                    boolean there = n <= 30 - gone;
                    DUE.is("23: best(" + seed + ", " + n + ", 0) from " + gone, x.best(seed, n, 0), there ? night : -1);
                    DUE.is("23: best(" + seed + ", " + n + ", 1) from " + gone, x.best(seed, n, 1), there ? most : -1);
                }
            }
        }
        // by no thieves all nights are alike: the first from now on
        PalletSky x = new PalletSky();
        x.mend(0, 7, 0);
        DUE.is("23: of like ones the first", x.best(99, 30, 0), 0);
        x.nights(99, 29);
        DUE.is("23: the last night", x.best(99, 1, 0), 29);
        DUE.is("23: one is left", x.best(99, 2, 0), -1);
        // thieves come, but to what is watched: alike as well
        PalletSky y = new PalletSky();
        y.mend(0, 7, 12);
        for (int i = 0; i < 30; i++) {
            y.watch(i, 1);
        }
        DUE.is("23: all are watched", y.best(99, 30, 0), 0);
        DUE.is("23: all are watched", y.best(99, 20, 1), 99);
    }

    private static void rivalOfSeeds() {
        for (int seed : SEEDS) {
            PalletSky x = new PalletSky();
            Due.bytes(x, 0, 1, 0, 0, 0);
            Draws draws = new Draws(seed);
            int night = 0;
            DUE.is("24: none by " + seed, x.rival(seed), 0);
            for (int i = 1; i <= 24; i++) {
                x.rounds(0, 0, 1);
                boolean lays = false;
                while (!lays) {
                    lays = draws.next(12) > 4;
                    night++;
                }
                DUE.is("24: " + i + " by " + seed, x.rival(seed), night);
            }
        }
    }

    private static void rival() {
        PalletSky x = new PalletSky();
        DUE.is("24: bare", x.rival(99), 0);
        // of one z a night, by % 12, of SEED 99
        int z = 99, laid = 0;
        for (int i = 0; i < 24; i++) {
            Due.bytes(x, 0, 1, 0, 0, 0);
            x.rounds(0, 0, 1);
            int night = 0;
            z = 99;
            laid = 0;
            while (laid <= i) {
                z = z * 1103515245 + 12345;
                laid += (z >>> 8) % 12 > 4 ? 1 : 0;
                night++;
            }
            DUE.is("24: " + (i + 1) + " ROUNDS", x.rival(99), night);
        }
        DUE.is("24: in thought", x.rival(99), x.rival(99));
        // Of all SEEDS none needs more nights for 24 ROUNDS than this one (all 2^32 were run through).
        DUE.is("24: the slowest", x.rival(1183306128), 89);
        // 8 % 12 is above 4 at first (8, 1, 5, 11 of the table are draws by 12, 6, 12, 12)
        PalletSky y = Due.stack(1, 0, 0, 0);
        DUE.is("24: the first night", y.rival(99), 1);
    }

    private static void judge() {
        PalletSky x = Due.stack(4, 0, 0, 0);
        DUE.is("25: no pane", x.judge(0, 0), -1);
        x.pane(200);
        DUE.is("25: shelf", x.judge(-1, 0), -1);
        DUE.is("25: shelf", x.judge(6, 0), -1);
        DUE.is("25: pane", x.judge(0, 1), -1);
        DUE.is("25: nothing", x.judge(0, 0), -11);
        for (int sort = 1; sort <= 4; sort++) {
            x.row(0, sort, 3);
            DUE.is("25: no bytes", x.judge(0, 0), -12);
        }
        x.body(2);
        x.keep(0, 0);
        DUE.is("25: a ROUND", x.judge(0, 0), -12);
        // 3 a minute: HEAT 150, told as 127; 48 is gone behind minute 15
        x.row(0, 0, 0);
        DUE.is("25: an empty ROW", x.judge(0, 0), -2);
        x.row(0, 0, 60);
        DUE.is("25: 0 is not so", x.judge(0, 0), 0);
        for (int i = 0; i < 16; i++) {
            DUE.is("25: so till " + i, x.judge(0, 0), i);
            x.put(0, i, 127);
        }
        DUE.is("25: all so", x.judge(0, 0), -2);
        x.put(0, 59, 1);
        DUE.is("25: the last", x.judge(0, 0), 59);
        x.put(0, 3, 126);
        DUE.is("25: the first", x.judge(0, 0), 3);
        x.mend(0, 5, 2);
        DUE.is("25: BOARDS: 110", x.judge(0, 0), 0);
        Due.bytes(x, 1, 110, 110, 110);
        DUE.is("25: it ends", x.judge(1, 0), -2);
        x.put(1, 2, -110);
        DUE.is("25: below 0", x.judge(1, 0), 2);
    }

    /** HEATS are told as 127 at most. */
    private static void judgeByBytes() {
        // two ROUNDS, each 100 away by FAR 99 and 1, of which one burns 63 and the other as many or one more or less
        int[] burns = {62, 63, 64, 65};
        for (int b : burns) {
            PalletSky x = Due.stack(9, 0, 0, 0, 9, 0, 0, 0, 9, 0, 0, 0);
            x.pane(9901);
            Due.told(x, "k=1|m<4|m>4?0;k=0?63;" + b);
            int glow = 63 + b;
            DUE.is("25: HEAT", x.heat(0, 4), glow);
            for (int v = 120; v <= 127; v++) {
                Due.bytes(x, 0, 0, 0, 0, 0, v);
                DUE.is("25: HEAT " + glow + " told as " + v, x.judge(0, 0), v == Math.min(127, glow) ? -2 : 4);
            }
            // 128 as a byte is -128, which is no HEAT
            Due.bytes(x, 0, 0, 0, 0, 0, glow);
            DUE.is("25: HEAT " + glow + " told by its lowest bits", x.judge(0, 0), glow <= 127 ? -2 : 4);
        }
    }

    /** The first minute that was not so; NOT also if it ends before. */
    private static void judgeMinutes() {
        PalletSky x = Due.stack(4, 0, 0, 0);
        x.pane(200);
        x.pane(9900);
        Due.told(x, "m=30?1;0");
        DUE.is("25: HEAT", x.heat(0, 30), 50);
        for (int n = 0; n <= 60; n++) {
            x.row(0, 0, n);
            DUE.is("25: a ROW of " + n, x.judge(0, 0), n > 30 ? 30 : -2);
        }
        x.put(0, 30, 50);
        DUE.is("25: all so", x.judge(0, 0), -2);
        DUE.is("25: at the other PANE", x.judge(0, 1), 30);
        for (int i = 59; i >= 0; i--) {
            if (i != 30) {
                x.put(0, i, 1);
            }
            DUE.is("25: the first from " + i, x.judge(0, 0), i == 30 ? 31 : i);
        }
        DUE.is("25: PANE -1", x.judge(0, -1), -1);
        DUE.is("25: PANE 2", x.judge(0, 2), -1);
    }

    /** AN IMAGE of all that it keeps, and of nothing else. */
    private static void imageOfAll() {
        PalletSky x = new PalletSky();
        DUE.is("28: there is none", x.back(), -5);
        DUE.is("27: of nothing gone", x.image(), 0);
        x.mend(0, 7, 12);
        for (int i = 0; i < 30; i++) {
            x.watch(i, i % 3 == 0 ? 1 : 0);
        }
        x.build(52, 44);
        DUE.is("22: all 30", x.nights(3, 30) >= 0 ? 1 : 0, 1);
        int[] now = {x.of(0, 24), x.of(0, 25), x.led(0), x.led(1)};
        DUE.is("28: back", x.back(), 0);
        DUE.is("28: STORE", x.of(0, 24) * 100 + x.of(0, 25), 2010);
        DUE.is("28: stolen", x.led(0), 0);
        DUE.is("28: latest", x.led(1), -2);
        DUE.is("28: WATCHES", x.watch(29, 0), 0);
        DUE.is("28: the ROUND stays", x.of(0, 2), 2);
        DUE.is("28: changes stay", x.count(4), 1);
        // the same nights again, with what was there then
        for (int i = 0; i < 30; i += 3) {
            x.watch(i, 1);
        }
        x.build(52, 44);
        x.nights(3, 30);
        int[] again = {x.of(0, 24), x.of(0, 25), x.led(0), x.led(1)};
        for (int i = 0; i < 4; i++) {
            DUE.is("22: the same nights give the same", again[i], now[i]);
        }
        DUE.is("27: with all gone", x.image(), 30);
        x.unbuild();
        x.unbuild();
        DUE.is("28: back", x.back(), 30);
        DUE.is("28: STORE without what was unbuilt", x.of(0, 24) * 100 + x.of(0, 25), now[0] * 100 + now[1]);
        DUE.is("22: none is left", x.nights(3, 1), -5);
    }

    private static void ledAndImage() {
        PalletSky x = new PalletSky();
        DUE.is("26: below", x.led(-1), -1);
        DUE.is("26: above", x.led(2), -1);
        DUE.is("26: none", x.led(0), 0);
        DUE.is("26: none", x.led(1), -2);
        DUE.is("28: none", x.back(), -5);
        x.mend(0, 7, 12);
        x.watch(4, 1);
        x.nights(99, 1);
        DUE.is("27: image", x.image(), 1);
        x.watch(4, 0);
        x.watch(5, 1);
        x.watch(6, 1);
        x.mend(0, 7, 11);
        x.build(50, 44);
        x.nights(99, 4);
        DUE.is("26: the latest", x.led(1), 4);
        DUE.is("28: back", x.back(), 1);
        DUE.is("28: dry", x.of(0, 24), 14);
        DUE.is("28: damp", x.of(0, 25), 11);
        DUE.is("28: gone", x.of(0, 28), 1);
        DUE.is("28: stolen", x.led(0), 14);
        DUE.is("28: latest", x.led(1), 0);
        DUE.is("28: WATCHES", x.watch(4, 1), 1);
        DUE.is("28: ROUNDS stay", x.count(0), 1);
        DUE.is("28: THIEVES stay", x.of(0, 23), 11);
        x.nights(1, 3);
        DUE.is("28: again", x.back(), 1);
        x.nights(1, 3);
        DUE.is("27: another", x.image(), 4);
        x.nights(1, 3);
        DUE.is("28: the latest one", x.back(), 4);
    }

    private static void undo() {
        PalletSky x = Due.stack(5, 2, 1, 0);
        x.pane(500);
        DUE.is("29: none", x.undo(), -5);
        int[][] ways = {{0, 3}, {1, -3}, {2, 5}, {3, 7}, {4, -7}, {5, 9}, {6, 77}, {7, 0}};
        int[] asked = {0, 1, 2, 20, 21, 12, 22, 23}, first = {1, 0, 2, 0, 0, 0, 200, 3};
        for (int[] w : ways) {
            x.mend(0, w[0], w[1]);
            DUE.is("29: changes", x.count(4), w[0] + 1);
            x.mend(0, w[0], w[1]);
            DUE.is("29: the same number is none", x.count(4), w[0] + 1);
            x.mend(0, w[0], 1000);
            DUE.is("29: BAD is none", x.count(4), w[0] + 1);
        }
        for (int what = 7; what >= 0; what--) {
            DUE.is("29: undo", x.undo(), what);
            DUE.is("29: as before", x.of(0, asked[what]), first[what]);
            DUE.is("29: changes", x.count(4), what);
        }
        DUE.is("29: none", x.undo(), -5);
        for (int what = 0; what < 8; what++) {
            DUE.is("30: redo", x.redo(), 7 - what);
            DUE.is("30: as it was", x.of(0, asked[what]), ways[what][1]);
        }
        DUE.is("30: none", x.redo(), -5);
        DUE.is("30: MIDDLE", x.of(0, 4), 3);
    }

    /** Telling the same number is no change, of any of the eight; one that is refused is none either. */
    private static void theSameIsNone() {
        PalletSky x = Due.stack(5, 2, 1, 0);
        x.pane(500);
        int[] first = {1, 0, 2, 0, 0, 0, 200, 3};
        for (int what = 0; what <= 7; what++) {
            DUE.is("6: the same", x.mend(0, what, first[what]), first[what]);
            DUE.is("29: is no change", x.count(4), 0);
            DUE.is("29: none", x.undo(), -5);
        }
        for (int what = 0; what <= 7; what++) {
            x.mend(0, what, first[what] + 1);
            DUE.is("29: a change", x.count(4), what + 1);
            DUE.is("29: and back is one", x.mend(0, what, first[what]), first[what] + 1);
            DUE.is("29: two changes", x.count(4), what + 2);
            DUE.is("29: undone", x.undo(), what + 1);
        }
        // what is redone or undone is no change either
        DUE.is("30: one, as each other one had another behind it", x.redo(), 0);
        DUE.is("30: none", x.redo(), -5);
        DUE.is("29: all are there", x.count(4), 9);
    }

    private static void redo() {
        PalletSky x = new PalletSky();
        DUE.is("30: none", x.redo(), -5);
        x.mend(0, 6, 10);
        x.mend(0, 6, 20);
        x.mend(0, 6, 30);
        x.undo();
        x.undo();
        DUE.is("30: as it is", x.mend(0, 6, 10), 10);
        DUE.is("30: telling the same does not matter", x.redo(), 1);
        DUE.is("30: is", x.of(0, 22), 20);
        x.build(10, 44);
        x.pane(500);
        x.nights(3, 3);
        DUE.is("30: no other CHANGE came behind", x.redo(), 0);
        DUE.is("30: is", x.of(0, 22), 30);
        x.undo();
        x.undo();
        x.mend(0, 7, 4);
        DUE.is("30: one came behind", x.redo(), -5);
        DUE.is("30: count", x.count(4), 2);
        DUE.is("29: undo", x.undo(), 1);
        DUE.is("29: undo", x.undo(), 0);
        DUE.is("29: is", x.of(0, 22), 200);
    }

    private static void fortyAtMost() {
        PalletSky x = new PalletSky();
        for (int i = 1; i <= 43; i++) {
            x.mend(0, 6, i);
            DUE.is("29: kept", x.count(4), Math.min(i, 40));
        }
        for (int i = 39; i >= 0; i--) {
            DUE.is("29: undo", x.undo(), i);
            DUE.is("29: is", x.of(0, 22), i + 3);
        }
        DUE.is("29: no more", x.undo(), -5);
        DUE.is("29: the three first are lost", x.of(0, 22), 3);
        for (int i = 39; i >= 0; i--) {
            DUE.is("30: redo", x.redo(), i);
            DUE.is("30: is", x.of(0, 22), 43 - i);
        }
        DUE.is("30: is", x.of(0, 22), 43);
        x.undo();
        x.mend(0, 6, 999);
        DUE.is("29: forty again", x.count(4), 40);
    }

    private static void roundsThatAreNotThere() {
        PalletSky x = Due.stack(3, 0, 0, 0, 9, 0, 0, 0);
        x.mend(1, 0, 1);
        x.mend(1, 2, 8);
        x.mend(1, 2, 4);
        x.unbuild();
        DUE.is("29: that ROUND is not there", x.undo(), -5);
        DUE.is("29: still kept", x.count(4), 3);
        Due.bytes(x, 0, 5, 0, 2, 0);
        x.rounds(0, 0, 1);
        DUE.is("29: another one is", x.undo(), 2);
        DUE.is("29: no more than its PALLETS", x.of(1, 2), 5);
        DUE.is("29: undo", x.undo(), 1);
        DUE.is("29: undo", x.of(1, 2), 0);
        DUE.is("29: undo", x.undo(), 0);
        DUE.is("29: the SLIP before", x.of(1, 0), 0);
        x.unbuild();
        DUE.is("30: that ROUND is not there", x.redo(), -5);
        Due.bytes(x, 0, 2, 0, 0, 0);
        x.rounds(0, 0, 1);
        DUE.is("30: redo", x.redo(), 2);
        DUE.is("30: redo", x.redo(), 1);
        DUE.is("30: no more than its PALLETS", x.of(1, 2), 2);
        x.unbuild();
        Due.bytes(x, 0, 9, 0, 0, 0);
        x.rounds(0, 0, 1);
        DUE.is("30: redo", x.redo(), 0);
        DUE.is("30: as told", x.of(1, 2), 4);
        DUE.is("29: undo", x.undo(), 2);
        DUE.is("29: as told, though less was laid between", x.of(1, 2), 8);
    }
}
