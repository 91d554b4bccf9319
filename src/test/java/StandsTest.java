/** Promises 10 to 15. */
public final class StandsTest {
    private static final Due DUE = new Due("StandsTest");

    public static void main(String[] args) {
        falls();
        bounds();
        whither();
        alone();
        topples();
        broad();
        straight();
        without();
        highest();
        highestByStore();
        DUE.end();
    }

    private static void falls() {
        PalletSky x = new PalletSky();
        DUE.is("10: below", x.falls(-1), -1);
        DUE.is("10: above", x.falls(2), -1);
        DUE.is("10: bare", x.falls(0), -2);
        DUE.is("10: bare", x.falls(1), -2);
        // ROUND 0's own SLIP does not matter; ROUND 1 bears 3 * 1 * 1 against 6 * slip
        int[][] slips = {{1, 0, 0}, {0, 1, 1}, {-1, 0, 2}, {0, -1, 3}, {1, 1, 0}, {-1, 1, 2}, {2, -3, 3}, {-3, 2, 2}, {-2, -2, 2}};
        for (int[] s : slips) {
            x = Due.stack(9, 0, 4, -4, 1, 0, 0, 0, 1, 0, s[0], s[1]);
            DUE.is("10: it is ROUND 1", x.falls(0), 1);
            DUE.is("10: whither", x.falls(1), s[2]);
        }
        // the first from below of two
        x = Due.stack(1, 0, 0, 0, 1, 0, 3, 0, 1, 0, -4, 0);
        DUE.is("10: the first from below", x.falls(0), 0);
        DUE.is("10: whither", x.falls(1), 0);
        DUE.is("10: the other", x.of(1, 6), 0);
        // just held: 3 * 2 * 2 = 12 against 6 * 2 * 1
        x = Due.stack(2, 0, 0, 0, 2, 0, 1, 0);
        DUE.is("10: just held", x.falls(0), -2);
        x.mend(0, 3, 1);
        DUE.is("10: and one more by WIND", x.falls(0), 0);
        x.mend(0, 3, -1);
        DUE.is("10: WIND against it", x.falls(0), -2);
        x.mend(0, 4, 9);
        DUE.is("10: 9 of y", x.falls(0), -2);
        x.mend(0, 3, 9);
        DUE.is("10: 21 of x", x.falls(1), 0);
        // WIND times how many: 2 * 9 against 3 * 1 * 2 * 3
        x = Due.stack(1, 0, 0, 0, 3, 0, 0, 0, 3, 0, 0, 0);
        x.mend(0, 4, -9);
        DUE.is("10: 18 of 18", x.falls(0), -2);
        x.mend(2, 1, -1);
        DUE.is("10: 36 of 18", x.falls(0), 0);
        DUE.is("10: back", x.falls(1), 3);
    }

    /** Just held and one more, by WIND alone and by SLIP and WIND, on each of the four sides. */
    private static void bounds() {
        int[] axis = {3, 4, 3, 4}, sign = {1, 1, -1, -1};
        for (int side = 0; side < 4; side++) {
            // 3 * 1 * 2 and 2 ROUNDS above: WIND 3
            PalletSky x = Due.stack(1, 0, 0, 0, 1, 0, 0, 0, 1, 0, 0, 0);
            x.mend(0, axis[side], 3 * sign[side]);
            DUE.is("10: just held on side " + side, x.falls(0), -2);
            DUE.is("10: just held on side " + side, x.falls(1), -2);
            DUE.is("7: HOLDS", x.of(0, 6), 1);
            x.mend(0, axis[side], 4 * sign[side]);
            DUE.is("10: one more on side " + side, x.falls(0), 0);
            DUE.is("10: whither", x.falls(1), side);
            DUE.is("7: HOLDS not", x.of(0, 6), 0);
            // 3 * p * q and 6 * q * SLIP: p 2, SLIP 1
            for (int q = 1; q <= 9; q++) {
                int slip = 6 * q * sign[side];
                x = side % 2 == 0 ? Due.stack(2, 0, 4, 4, q, 0, sign[side], 0) : Due.stack(2, 0, 4, 4, q, 0, 0, sign[side]);
                DUE.is("10: " + slip + " is just held", x.falls(0), -2);
                x.mend(0, axis[side], sign[side]);
                DUE.is("10: " + slip + " and 1 of WIND", x.falls(0), 0);
                DUE.is("10: whither", x.falls(1), side);
                x.mend(0, axis[side], -sign[side]);
                DUE.is("10: " + slip + " less 1 of WIND", x.falls(0), -2);
            }
        }
        // both of x and y at the bound
        PalletSky x = Due.stack(2, 0, 0, 0, 3, 0, 1, -1);
        DUE.is("10: both just held", x.falls(0), -2);
        // a PUSH farther up is taken against the ROUND that holds: 6 * (1 + 2) of 3 * 3 * 2
        x = Due.stack(3, 0, 4, 0, 1, 0, 1, 0, 1, 0, 1, 0);
        DUE.is("10: 18 of 18, and 6 of 3 above", x.falls(0), 1);
        x = Due.stack(3, 0, -4, 0, 2, 0, 1, 0, 1, 0, 1, 0);
        DUE.is("10: 24 of 27, and 6 of 6 above", x.falls(0), -2);
    }

    /** Of like ones x; by its sign. */
    private static void whither() {
        int[][] due = {{3, 3, 0}, {3, -3, 0}, {-3, 3, 2}, {-3, -3, 2}, {3, 2, 0}, {-3, 2, 2}, {3, -2, 0}, {-3, -2, 2}, {2, 3, 1},
            {2, -3, 3}, {-2, 3, 1}, {-2, -3, 3}, {3, 0, 0}, {0, 3, 1}, {-3, 0, 2}, {0, -3, 3}};
        for (int[] d : due) {
            PalletSky x = Due.stack(1, 0, 0, 0, 1, 0, d[0], d[1]);
            DUE.is("10: by SLIP " + d[0] + " and " + d[1], x.falls(1), d[2]);
            DUE.is("17: by SLIP " + d[0] + " and " + d[1], x.burns(2), d[2]);
            x = Due.stack(1, 0, 0, 0, 1, 0, 0, 0);
            x.mend(0, 3, 2 * d[0]);
            x.mend(0, 4, 2 * d[1]);
            DUE.is("10: by WIND " + 2 * d[0] + " and " + 2 * d[1], x.falls(1), d[2]);
        }
        // one PUSH against the other: 12 of SLIP less 9 of WIND is as much as 3 of WIND
        PalletSky x = Due.stack(1, 0, 0, 0, 1, 0, 2, 0, 1, 0, 0, 0);
        x.mend(0, 3, -9);
        x.mend(0, 4, 3);
        DUE.is("10: 24 - 18 and 6 of 6", x.falls(0), 1);
        DUE.is("10: ROUND 1 by 9 to the left", x.falls(1), 2);
    }

    /** What bears nothing STANDS: no ROUND, one ROUND, the topmost one. */
    private static void alone() {
        for (int wind = -9; wind <= 9; wind += 9) {
            PalletSky bare = new PalletSky(), x = Due.stack(1, 1, -4, 4);
            bare.mend(0, 3, wind);
            x.mend(0, 3, wind);
            x.mend(0, 4, -wind);
            for (int what = 0; what <= 1; what++) {
                DUE.is("10: bare", bare.falls(what), -2);
                DUE.is("10: one ROUND", x.falls(what), -2);
            }
            for (int direction = 0; direction < 4; direction++) {
                DUE.is("11: bare", bare.topples(direction), -2);
                DUE.is("11: one ROUND", x.topples(direction), -2);
            }
            DUE.is("7: one ROUND HOLDS", x.of(0, 6), 1);
            DUE.is("12: one ROUND", x.broad(0), 1);
            DUE.is("14: one ROUND of one", x.without(), 0);
            DUE.is("14: one ROUND of two", Due.stack(2, 2, 0, 0).without(), 1);
            DUE.is("14: bare", bare.without(), 0);
        }
    }

    private static void toppled(int direction, int due, int... fours) {
        DUE.is("11: topples(" + direction + ") of " + java.util.Arrays.toString(fours),
            Due.stack(fours).topples(direction), due);
    }

    private static void topples() {
        PalletSky x = new PalletSky();
        DUE.is("11: below", x.topples(-1), -1);
        DUE.is("11: above", x.topples(4), -1);
        DUE.is("11: bare", x.topples(0), -2);
        DUE.is("11: bare", x.topples(3), -2);
        // what is told of WIND does not matter: ROUND 0 bears 3 * 2 * 2 and has 12 to the right
        x = Due.stack(2, 0, 0, 0, 2, 0, 1, 0);
        x.mend(0, 3, 9);
        x.mend(0, 4, 9);
        DUE.is("11: right", x.topples(0), 1);
        DUE.is("11: fore", x.topples(1), 13);
        DUE.is("11: left", x.topples(2), 25);
        DUE.is("11: back", x.topples(3), 13);
        DUE.is("11: WIND x as it was", x.of(0, 20), 9);
        DUE.is("11: WIND y as it was", x.of(0, 21), 9);
        // just within 99: 3 * 8 * 4 and one; 3 * 9 * 4 is too much
        toppled(2, 97, 8, 0, 0, 0, 4, 0, 0, 0);
        toppled(2, -2, 9, 0, 0, 0, 4, 0, 0, 0);
        // along one axis alone: 12 of 12 along the other is held
        toppled(0, 13, 2, 0, 0, 0, 2, 0, 0, 1);
        toppled(1, 13, 2, 0, 0, 0, 2, 0, -1, 0);
        // less where it leans already: 105 - 30, 126 - 36, 168 - 84, and one
        toppled(0, 76, 7, 0, 0, 0, 5, 0, 1, 0);
        toppled(0, 91, 7, 0, 0, 0, 6, 0, 1, 0);
        toppled(1, 85, 8, 0, 0, 0, 7, 0, 0, 2);
        // ROUND 0 by three: 390 - 96 is 3 * 98; 405 - 108 is 3 * 99, and 99 is the last WIND
        toppled(0, 99, 5, 0, 0, 0, 9, 0, 0, 0, 9, 0, 0, 0, 8, 0, 2, 0);
        toppled(0, -2, 5, 0, 0, 0, 9, 0, 0, 0, 9, 0, 0, 0, 9, 0, 2, 0);
        // the weakest counts: ROUND 0 by two, ROUND 1 by one
        toppled(1, 50, 3, 0, 0, 0, 9, 0, 0, 0, 2, 0, 0, 0);
        toppled(0, 32, 3, 0, 0, 0, 3, 0, 0, 0, 4, 0, 0, 0);
        toppled(3, 16, 9, 0, 0, 0, 9, 0, 0, 0, 5, 0, 0, 0, 1, 0, 0, 0);
        // it is as it is now: without the topmost ROUND
        PalletSky y = Due.stack(8, 0, 0, 0, 4, 0, 0, 0, 9, 0, 4, 0);
        y.unbuild();
        DUE.is("11: without the topmost", y.topples(0), 97);
        DUE.is("10: without the topmost", y.falls(0), -2);
        DUE.is("12: without the topmost", y.broad(0), 1);
        // one that falls without WIND falls by 0 in all directions, also where WIND would hold it
        for (int direction = 0; direction < 4; direction++) {
            toppled(direction, 0, 1, 0, 0, 0, 1, 0, 3, 0);
        }
    }

    private static void broad() {
        PalletSky x = new PalletSky();
        DUE.is("12: none", x.broad(0), -1);
        x = Due.stack(9, 0, 0, 0, 2, 0, 1, 0, 5, 0, 0, 1);
        DUE.is("12: below", x.broad(-1), -1);
        DUE.is("12: above", x.broad(3), -1);
        // ROUND 0: 6 * 7 = 42 by 21 each; ROUND 1: 6 * 5 = 30 by 15 each
        DUE.is("12: ROUND 0", x.broad(0), 2);
        DUE.is("12: ROUND 1", x.broad(1), 2);
        DUE.is("12: the top", x.broad(2), 1);
        x.mend(0, 4, 1);
        DUE.is("12: ROUND 1 by 31", x.broad(1), 3);
        DUE.is("12: its PALLETS are as they were", x.of(1, 3), 2);
        x = Due.stack(1, 0, 0, 0, 1, 0, 4, 0);
        DUE.is("12: 24 by 3 each", x.broad(0), 8);
        x.mend(0, 3, 3);
        DUE.is("12: 27", x.broad(0), 9);
        x.mend(0, 3, 4);
        DUE.is("12: 28", x.broad(0), -2);
    }

    private static void straight() {
        PalletSky x = new PalletSky();
        DUE.is("13: no ROUND", x.straight(3, 0), -5);
        DUE.is("13: pallets", x.straight(0, 0), -1);
        DUE.is("13: pallets", x.straight(10, 0), -1);
        DUE.is("13: what", x.straight(1, 2), -1);
        DUE.is("13: what", x.straight(1, -1), -1);
        // one of 3 at 2, 0; one of 2 on it: 18 * 2 + 12 * (2 + s) = 0 by s = -5: -4 leaves 12
        x = Due.stack(5, 0, 0, 0, 3, 0, 2, 0);
        DUE.is("13: the PUSH", x.straight(2, 1), 12);
        // y may be -1, 0 or 1 by like PUSHES; the first counts
        DUE.is("13: the first of like ones", x.straight(2, 0), 3);
        DUE.is("13: just straight", x.straight(3, 1), 0);
        DUE.is("13: just straight", x.straight(3, 0), 4);
        x.mend(0, 3, -9);
        // 36 - 18 + 12 * (2 + s): s = -3 and -4 give 6 and -6
        DUE.is("13: with WIND", x.straight(2, 1), 6);
        DUE.is("13: with WIND, the first", x.straight(2, 0), 4);
        DUE.is("13: nothing came", x.count(0), 2);
        // far to the right and fore all the more: no SLIP is enough; then far to the left and back
        PalletSky far = Due.stack(5, 0, 0, 0, 9, 0, 4, 4, 9, 0, 4, 4);
        DUE.is("13: farthest back left", far.straight(9, 0), 0);
        DUE.is("13: farthest", far.straight(9, 1), 6 * 9 * (4 + 8 + 4));
        far = Due.stack(5, 0, 0, 0, 9, 0, -4, -4, 9, 0, -4, -4);
        DUE.is("13: farthest fore right", far.straight(9, 0), 88);
        DUE.is("13: farthest", far.straight(9, 1), 6 * 9 * (4 + 8 + 4));
        far = Due.stack(5, 0, 0, 0, 9, 0, 0, -4, 9, 0, 0, -4);
        DUE.is("13: farthest fore, x does not matter", far.straight(9, 0), 8);
        far = Due.stack(5, 0, 0, 0, 9, 0, -4, 0, 9, 0, -4, 0);
        DUE.is("13: farthest right, y does not matter", far.straight(9, 0), 80);
        far = Due.stack(5, 0, 4, 4, 1, 0, -3, 2);
        DUE.is("13: 3 and -2, less 2 and -1, and so on", far.straight(1, 0), 10 * 8 + 0);
        for (int i = 2; i < 24; i++) {
            Due.bytes(x, 0, 1, 0, 0, 0);
            DUE.is("13: STATE no more", x.straight(1, 0) >= 0 ? 1 : 0, 1);
            x.rounds(0, 0, 1);
        }
        DUE.is("13: FULL", x.straight(1, 0), -3);
        DUE.is("13: BAD ahead of FULL", x.straight(0, 0), -1);
    }

    private static void without() {
        DUE.is("14: bare", new PalletSky().without(), 0);
        PalletSky x = Due.stack(2, 0, 0, 0, 2, 0, 0, 0, 1, 0, 0, 0);
        DUE.is("14: of one none is taken", x.without(), 3);
        x.mend(1, 0, 1);
        // 18 of 18 at ROUND 0: it may not lose one; ROUND 1 may: 12 of 12
        DUE.is("14: ROUND 0 needs both", x.without(), 2);
        DUE.is("14: none is taken in deed", x.count(2), 5);
        x.mend(0, 3, 1);
        DUE.is("14: it does not stand anyway", x.without(), 0);
        // one that falls by what is above may stand without a pallet there
        x = Due.stack(3, 0, 0, 0, 3, 0, 2, 0, 2, 0, -1, 0);
        DUE.is("14: it falls by 48 of 45", x.falls(0), 0);
        DUE.is("14: ROUND 1 with two: 36 of 36, and it bears 12 by 12", x.without(), 2);
        // the topmost ones have their bits too
        int[] fours = new int[96];
        for (int i = 0; i < 96; i += 4) {
            fours[i] = 2;
        }
        DUE.is("14: all 24", Due.stack(fours).without(), (1 << 24) - 1);
    }

    private static void highest() {
        PalletSky x = new PalletSky();
        DUE.is("15: by STORE", x.highest(), 10);
        x.build(10, 44);
        DUE.is("15: 29", x.highest(), 9);
        x.build(11, 44);
        DUE.is("15: 28, dry and damp alike", x.highest(), 9);
        x.build(11, 44);
        DUE.is("15: 27", x.highest(), 9);
        x.build(10, 44);
        DUE.is("15: 26", x.highest(), 8);
        DUE.is("15: none came", x.count(0), 4);
        x = new PalletSky();
        for (int i = 0; i < 22; i++) {
            Due.bytes(x, 0, 9, 0, 0, 0);
            x.rounds(0, 0, 1);
        }
        DUE.is("15: 24 are all", x.highest(), 2);
        Due.bytes(x, 0, 9, 0, 0, 0, 9, 0, 0, 0);
        x.rounds(0, 0, 2);
        DUE.is("15: FULL", x.highest(), 0);
        x = Due.stack(1, 0, 0, 0, 1, 0, 1, 0);
        DUE.is("15: it does not stand, nor with one more", x.highest(), 0);
        // ROUND 0: 6 - 54, and 18 more by each, of 90 and 27 more by each; ROUND 1: 12 and 36 more of 27 and 81 more
        x = Due.stack(3, 0, 0, 0, 9, 0, -1, 0, 1, 0, 2, 0);
        DUE.is("15: it stands on", x.highest(), 10);
        // ROUND 0: 30 and 36 more by each, of 24 and 18 more by each
        x = Due.stack(2, 0, 0, 0, 3, 0, 1, 0, 1, 0, 1, 0);
        DUE.is("15: not from the first on", x.highest(), 0);
        // ROUND 0: 12 and 36 more by each, of 60 and 18 more by each: 84 of 96, 120 of 114
        x = Due.stack(2, 0, 0, 0, 9, 0, 0, 0, 1, 0, 2, 0);
        DUE.is("15: two, not three", x.highest(), 2);
        // WIND takes 9 a ROUND off it: 27 k - 6 of 60 + 18 k
        x.mend(0, 3, -9);
        DUE.is("15: WIND helps", x.highest(), 7);
        highestOfWhatFalls();
    }

    private static void highestOfWhatFalls() {
        // by its SLIPS, 132 of 120 fore and back; with one more it would STAND: 150 of 156
        PalletSky x = new PalletSky();
        x.build(43, 0);
        x.build(62, 61);
        x.build(42, 26);
        DUE.is("15: it falls", x.falls(0), 0);
        DUE.is("15: it does not stand as it is", x.highest(), 0);
        DUE.is("15: none came", x.count(0), 3);
        DUE.is("15: none was taken", x.of(0, 24) + x.of(0, 25), 16);
        x.mend(1, 1, -2);
        DUE.is("15: it stands", x.falls(0), -2);
        DUE.is("15: mended", x.highest(), 5);
        // by WIND, 4 of 3; 8 of 12 with one more
        x = Due.stack(1, 0, 0, 0, 1, 0, 0, 0);
        x.mend(0, 3, 3);
        DUE.is("15: WIND just held", x.highest(), 10);
        x.mend(0, 3, 4);
        DUE.is("15: WIND to the right", x.highest(), 0);
        x.mend(0, 3, 0);
        x.mend(0, 4, -4);
        DUE.is("15: WIND back", x.highest(), 0);
        // ROUND 0 holds, 8 of 54; ROUND 1 does not, 4 of 3; 8 of 12 with one more
        x = Due.stack(9, 0, 0, 0, 1, 0, 0, 0, 1, 0, 0, 0);
        x.mend(0, 4, 4);
        DUE.is("15: ROUND 1 falls", x.falls(0), 1);
        DUE.is("15: ROUNDS above the lowest are asked too", x.highest(), 0);
        // 12 of 9 at ROUND 1; WIND from the other side holds it: 3 of 9, and 27 more by each of 27 more
        x = Due.stack(9, 0, 0, 0, 3, 0, 0, 0, 1, 0, 2, 0);
        DUE.is("15: without WIND", x.highest(), 0);
        x.mend(0, 3, -9);
        DUE.is("15: as it is, with WIND", x.highest(), 10);
    }

    /** STORE has less than 3, dry and damp ones alike. */
    private static void highestByStore() {
        for (int dry = 0; dry <= 7; dry++) {
            for (int damp = 0; damp <= 7; damp++) {
                PalletSky x = Due.stored(dry, damp);
                DUE.is("15: by " + dry + " dry and " + damp + " damp ones", x.highest(), (dry + damp) / 3);
                DUE.is("15: in thought", x.of(0, 24) + x.of(0, 25), dry + damp);
            }
        }
        // there are 24
        PalletSky x = new PalletSky();
        Due.bytes(x, 0, 9, 0, 0, 0);
        for (int there = 0; there <= 24; there++) {
            DUE.is("15: till there are 24, on " + there, x.highest(), Math.min(10, 24 - there));
            x.rounds(0, 0, 1);
        }
    }
}
