/** Promises 16 to 20, and what THE LAW of promise 9 gives. */
public final class FireTest {
    private static final Due DUE = new Due("FireTest");

    public static void main(String[] args) {
        fuel();
        lit();
        worth();
        names();
        falls();
        burntOut();
        heat();
        cracks();
        boarded();
        inThought();
        DUE.end();
    }

    private static void fuel() {
        PalletSky x = new PalletSky();
        DUE.is("16: none", x.fuel(0, 0), -1);
        x = Due.stack(4, 1, 0, 0);
        DUE.is("16: round", x.fuel(1, 0), -1);
        DUE.is("16: round", x.fuel(-1, 0), -1);
        DUE.is("16: minute", x.fuel(0, -1), -1);
        DUE.is("16: minute", x.fuel(0, 61), -1);
        // 44 at first; (4 + 0) / 2 + 1 a minute
        DUE.is("16: behind minute 0", x.fuel(0, 0), 41);
        DUE.is("16: behind minute 13", x.fuel(0, 13), 2);
        DUE.is("16: no more than is left", x.fuel(0, 14), 0);
        DUE.is("16: behind minute 60", x.fuel(0, 60), 0);
        x.mend(0, 3, -3);
        x.mend(0, 4, 4);
        DUE.is("16: WIND without signs, (4 + 7) / 2 + 1", x.fuel(0, 0), 38);
        x.mend(0, 2, 4);
        DUE.is("16: all damp", x.fuel(0, 0), 26);
    }

    private static void lit() {
        // dry; two of four damp; three of four damp; dry
        PalletSky x = Due.stack(4, 4, 0, 0, 4, 2, 0, 0, 4, 3, 0, 0, 4, 0, 0, 0);
        int[] first = {32, 40, 36, 48}, lit = {0, 2, 6, 8};
        for (int i = 0; i < 4; i++) {
            for (int minute = 0; minute <= 60; minute++) {
                int burns = minute < lit[i] ? 0 : 3 * (minute - lit[i] + 1);
                DUE.is("16: fuel(" + i + ", " + minute + ")", x.fuel(i, minute), Math.max(0, first[i] - burns));
            }
        }
    }

    /** A text that gives what is told: the FUEL left of 108 tells it, if it is 0 to 108. */
    private static void gives(String text, int due) {
        PalletSky x = Due.stack(9, 0, 0, 0);
        DUE.is("9: law " + text, Due.told(x, text), 1);
        DUE.is("9: " + text, 108 - x.fuel(0, 0), due);
    }

    private static void worth() {
        gives("7", 7);
        gives("0007", 7);
        gives("9999", 108);
        gives("0-5", 0);
        gives("-5", 0);
        gives("2+3*4", 14);
        gives("(2+3)*4", 20);
        gives("20-5-3", 12);
        gives("20-(5-3)", 18);
        gives("40/3/2", 6);
        gives("40%7*3", 15);
        gives("7/0", 0);
        gives("7%0+3", 3);
        gives("50+(0-7)/2", 47);
        gives("50+(0-7)%3", 49);
        gives("50--3", 53);
        gives("50---3", 47);
        gives("50-!0", 49);
        gives("!5+2", 2);
        gives("!0+2", 3);
        gives("!(5=5)", 0);
        gives("-2+9", 7);
        gives("-(2+9)+50", 39);
        gives("-2*-3", 6);
        gives("7|0", 1);
        gives("0|0", 0);
        gives("2|8", 1);
        gives("6&1", 1);
        gives("6&0", 0);
        gives("1|1&0", 1);
        gives("0&1|1", 1);
        gives("1<2&3", 1);
        gives("2<2", 0);
        gives("2>2", 0);
        gives("3>2", 1);
        gives("2=2", 1);
        gives("2=3", 0);
        gives("1+2=3", 1);
        gives("0<-1", 0);
        gives("5>3|0", 1);
        gives("2*3=6&1", 1);
        // ints wrap: 9999 * 9999 * 22 is 2199560022, so less than 0; and once more it is not
        gives("9999*9999*22", 0);
        gives("9999*9999*22<0", 1);
        gives("0-9999*9999*22>0", 1);
        gives("(9999*9999*22+4)%100", 0);
        gives("0-(9999*9999*22+4)%100", 70);
        // the least int by -1: 65536 * 32768
        gives("1-(8192*8192*32/-1<0)+1", 1);
        gives("8192*8192*32%-1+4", 4);
        gives("--(8192*8192*32)<0", 1);
        // LINES
        gives("0?5;6", 6);
        gives("1?5;6", 5);
        gives("-1?5;6", 5);
        gives("0?5;0?6", 0);
        gives("5;6", 5);
        gives("0;6", 0);
        gives("0?5;2>1?7;8", 7);
        gives("1?0;6", 0);
        // the longest: 120 bytes, a part each
        StringBuilder longest = new StringBuilder("-0");
        while (longest.length() < 120) {
            longest.append("+1");
        }
        gives(longest.toString(), 59);
        StringBuilder lines = new StringBuilder("0?1");
        while (lines.length() + 4 < 118) {
            lines.append(";0?1");
        }
        gives(lines + ";7", 7);
    }

    private static void names() {
        PalletSky x = Due.stack(5, 3, 0, 0, 4, 1, 0, 0);
        x.mend(0, 3, -2);
        x.mend(0, 4, 3);
        // ROUND 0: 48 at first, LIT at 0; ROUND 1: 44, LIT at 2
        String[] texts = {"f=48", "f=44", "p", "d", "k+3", "m", "w", "f/2"};
        int[] zero = {1, 0, 5, 3, 3, 0, 5, 24}, one = {0, 1, 4, 1, 4, 2, 5, 22};
        for (int i = 0; i < texts.length; i++) {
            Due.told(x, texts[i]);
            DUE.is("9: " + texts[i] + " of ROUND 0 in minute 0", 48 - x.fuel(0, 0), zero[i]);
            DUE.is("9: " + texts[i] + " of ROUND 1 in minute 2", x.fuel(1, 1) - x.fuel(1, 2), one[i]);
            DUE.is("9: ROUND 1 ahead of minute 2", x.fuel(1, 1), 44);
        }
        DUE.is("9: f is what is left", x.fuel(0, 1), 12);
        Due.told(x, "m");
        DUE.is("9: 48 less 0, 1, 2, .., 9", x.fuel(0, 9), 3);
        DUE.is("9: and no more than is left", x.fuel(0, 10), 0);
        Due.told(x, "m=60?1;0");
        DUE.is("9: minute 59", x.fuel(0, 59), 48);
        DUE.is("9: minute 60", x.fuel(0, 60), 47);
        // p stays what it was as FUEL goes
        Due.told(x, "p");
        DUE.is("9: p", x.fuel(0, 8), 3);
    }

    private static void falls() {
        PalletSky x = new PalletSky();
        DUE.is("17: below", x.burns(-1), -1);
        DUE.is("17: above", x.burns(4), -1);
        DUE.is("17: bare", x.burns(0), -2);
        DUE.is("17: bare", x.burns(2), -2);
        DUE.is("17: bare, all FUEL is gone", x.burns(3), 0);
        // one FUEL a minute: ROUND 1 has half its 48 behind minute 25, ROUND 0 of 5 half its 60 behind minute 29
        x = Due.stack(5, 0, 0, 0, 4, 0, 0, 1);
        Due.told(x, "1");
        DUE.is("17: 12 of 3 * 2 * 2, later 0 of 0", x.burns(0), -2);
        x.mend(0, 4, 1);
        DUE.is("17: 13 of 12", x.burns(0), 29);
        DUE.is("17: at", x.burns(1), 0);
        DUE.is("17: whither", x.burns(2), 1);
        // none holds nothing, but bears no PUSH at all
        x = Due.stack(1, 0, 0, 0, 4, 0, 0, 0);
        Due.told(x, "k=0");
        DUE.is("17: straight", x.burns(0), -2);
        x.mend(0, 3, -1);
        DUE.is("17: gone behind minute 11", x.burns(0), 11);
        DUE.is("17: whither", x.burns(2), 2);
        // 1 at least
        x = Due.stack(1, 0, 0, 0, 1, 0, 0, 0);
        Due.told(x, "k=0");
        x.mend(0, 3, 3);
        DUE.is("17: half of one counts as one", x.burns(0), 11);
        // half of three, cut, is one: 24 of 36, then of 12 behind minute 5
        x = Due.stack(3, 0, 0, 0, 4, 0, 1, 0);
        Due.told(x, "k=0?3;0");
        DUE.is("17: one of three", x.burns(0), 5);
        x = Due.stack(5, 0, 0, 0, 4, 0, 1, 0);
        Due.told(x, "k=0?3;0");
        DUE.is("17: two of five till none is left", x.burns(0), 19);
        // what is above gets lighter, what bears it less; ROUND 1 of 9 counts 4 behind minute 2 + 53
        x = Due.stack(9, 0, 0, 0, 9, 0, 0, 0, 2, 0, 0, 2);
        Due.told(x, "k=1");
        DUE.is("17: 24 of 24", x.burns(0), -2);
        x.mend(0, 4, 1);
        DUE.is("17: 25 of 24", x.burns(0), 55);
        DUE.is("17: at ROUND 1", x.burns(1), 1);
        DUE.is("17: half: 54 of 108", x.fuel(1, 55), 54);
        // ROUNDS without PALLETS are still above: WIND
        x = Due.stack(1, 0, 0, 0, 1, 0, 0, 0, 1, 0, 0, 0);
        x.mend(0, 4, -1);
        Due.told(x, "k=2?12;0");
        DUE.is("17: ROUND 1 bears none, and 1 of WIND", x.burns(0), 4);
        DUE.is("17: at ROUND 1", x.burns(1), 1);
        DUE.is("17: back", x.burns(2), 3);
        // it falls ahead of a fire: minute 0
        x = Due.stack(1, 0, 0, 0, 1, 0, -4, 0);
        DUE.is("17: minute 0", x.burns(0), 0);
        DUE.is("17: left", x.burns(2), 2);
        // in the last minute
        x = Due.stack(1, 0, 0, 0, 4, 0, 0, 0);
        x.mend(0, 3, 1);
        Due.told(x, "k=0&m=60?12;0");
        DUE.is("17: minute 60", x.burns(0), 60);
    }

    private static void burntOut() {
        PalletSky x = Due.stack(5, 0, 0, 0);
        Due.told(x, "1");
        DUE.is("17: 60 behind minute 59", x.burns(3), 59);
        x = Due.stack(6, 1, 0, 0);
        Due.told(x, "1");
        DUE.is("17: 68", x.burns(3), -2);
        Due.told(x, "m=60?f;0");
        DUE.is("17: minute 60", x.burns(3), 60);
        Due.told(x, "f");
        DUE.is("17: all at once", x.burns(3), 0);
        x = Due.stack(2, 0, 0, 0, 3, 3, 0, 0, 1, 0, 0, 0);
        Due.told(x, "f");
        DUE.is("17: the topmost is LIT at 6", x.burns(3), 6);
        Due.told(x, "k=1?0;f");
        DUE.is("17: one never", x.burns(3), -2);
    }

    private static void heat() {
        PalletSky x = new PalletSky();
        DUE.is("18: no pane", x.heat(0, 0), -1);
        x = Due.stack(4, 0, 0, 0, 6, 0, 0, 0, 2, 0, 0, 0);
        x.pane(702);
        DUE.is("18: pane", x.heat(1, 0), -1);
        DUE.is("18: pane", x.heat(-1, 0), -1);
        DUE.is("18: minute", x.heat(0, -1), -1);
        DUE.is("18: minute", x.heat(0, 61), -1);
        DUE.is("18: 300 by 9", x.heat(0, 0), 33);
        DUE.is("18: 300 by 9, 400 by 8", x.heat(0, 2), 83);
        DUE.is("18: and 200 by 7, cut each", x.heat(0, 4), 33 + 50 + 28);
        x.mend(0, 5, 2);
        DUE.is("18: BOARDS", x.heat(0, 4), 71);
        x.mend(0, 5, 9);
        DUE.is("18: 0 at least", x.heat(0, 4), 0);
        DUE.is("18: the last minute", x.heat(0, 60), 0);
        x.pane(723);
        DUE.is("18: as high as ROUND 23", x.heat(1, 0), 10);
        x.pane(9900);
        DUE.is("18: far", x.heat(2, 0), 3);
        x.pane(100);
        DUE.is("18: near", x.heat(3, 0), 300);
    }

    private static void cracks() {
        PalletSky x = new PalletSky();
        DUE.is("19: no pane", x.cracks(0, 0), -1);
        // burns m a minute: HEAT 10 m at FAR 10
        x = Due.stack(9, 0, 0, 0);
        Due.told(x, "m");
        x.pane(1000);
        DUE.is("19: pane", x.cracks(1, 0), -1);
        DUE.is("19: what", x.cracks(0, 2), -1);
        DUE.is("19: what", x.cracks(0, -1), -1);
        DUE.is("19: NOT: 14 is most", x.cracks(0, 0), -2);
        DUE.is("19: 1 + .. + 14 is 105, then 3", x.cracks(0, 1), 140);
        x.mend(0, 6, 140);
        DUE.is("19: LIMIT or more", x.cracks(0, 0), 14);
        x.mend(0, 6, 141);
        DUE.is("19: less than LIMIT", x.cracks(0, 0), -2);
        x.mend(0, 6, 45);
        DUE.is("19: the first", x.cracks(0, 0), 5);
        x.mend(0, 5, 3);
        DUE.is("19: BOARDS", x.cracks(0, 0), 11);
        DUE.is("19: HOTTEST behind them", x.cracks(0, 1), 80);
        Due.told(x, "m=60?f;0");
        DUE.is("19: minute 60", x.cracks(0, 0), 60);
        DUE.is("19: HOTTEST in minute 60", x.cracks(0, 1), 1020);
        DUE.is("20: minute 60", x.boarded(0), -2);
        Due.told(x, "0");
        DUE.is("19: none burns", x.cracks(0, 1), 0);
        DUE.is("19: none burns", x.cracks(0, 0), -2);
        Due.told(x, "m=0?50;0");
        DUE.is("19: minute 0", x.cracks(0, 0), 0);
        DUE.is("19: HOTTEST in minute 0", x.cracks(0, 1), 440);
        x.mend(0, 6, 401);
        DUE.is("20: minute 0", x.boarded(0), 5);
        x.mend(0, 6, 45);
        // it falls: that minute counts, none behind it; ROUND 0 of 1 is gone behind minute 3 by 0, 1, 2, 9
        x = Due.stack(1, 0, 0, 0, 4, 0, 0, 0);
        x.mend(0, 3, 1);
        x.pane(1000);
        Due.told(x, "m<4?3;f");
        DUE.is("19: falls", x.burns(0), 3);
        x.mend(0, 6, 57);
        DUE.is("19: 3 by 10 and 3 by 11", x.heat(0, 3), 57);
        DUE.is("19: hot behind it", x.heat(0, 4), 42 * 100 / 11);
        DUE.is("19: that minute counts", x.cracks(0, 0), 2);
        Due.told(x, "m=3?12;m>3?f;0");
        DUE.is("19: 120 and 12 by 11 in that minute", x.cracks(0, 0), 3);
        DUE.is("19: HOTTEST of all 60 minutes", x.cracks(0, 1), 36 * 100 / 11);
        x.mend(0, 6, 300);
        DUE.is("19: not behind it", x.cracks(0, 0), -2);
    }

    private static void boarded() {
        PalletSky x = Due.stack(9, 0, 0, 0);
        DUE.is("20: without PANES", x.boarded(-1), 0);
        DUE.is("20: no pane", x.boarded(0), -1);
        DUE.is("20: no pane", x.boarded(-2), -1);
        Due.told(x, "m");
        x.pane(1000);
        x.pane(500);
        DUE.is("20: none is needed", x.boarded(0), 0);
        DUE.is("20: 280 less 80 is LIMIT", x.boarded(1), 5);
        DUE.is("20: together", x.boarded(-1), 5);
        x.mend(0, 6, 101);
        DUE.is("20: 140 less 40 is below 101", x.boarded(0), 2);
        DUE.is("20: 280 less 180 is below 101", x.boarded(1), 9);
        DUE.is("20: together", x.boarded(-1), 11);
        x.mend(0, 5, 9);
        DUE.is("20: whatever BOARDS are there", x.boarded(0), 2);
        x.mend(0, 6, 100);
        DUE.is("20: 280 less 180 is 100", x.boarded(1), -2);
        DUE.is("20: NOT", x.boarded(-1), -2);
        DUE.is("20: the other", x.boarded(0), 3);
        DUE.is("20: no such pane", x.boarded(2), -1);
        // only till it falls
        x = Due.stack(1, 0, 0, 0, 4, 0, 0, 0);
        x.mend(0, 3, 1);
        x.pane(1000);
        Due.told(x, "m=3?12;m>3?f;0");
        x.mend(0, 6, 100);
        DUE.is("20: 229 in minute 3: 120 and 109", x.boarded(0), 7);
        x.mend(1, 0, 4);
        DUE.is("20: it falls at once", x.boarded(0), 0);
    }

    /** A fire is in thought, and of what is there as it is asked for. */
    private static void inThought() {
        PalletSky x = Due.stack(4, 0, 0, 0);
        DUE.is("16: fuel", x.fuel(0, 60), 0);
        DUE.is("16: PALLETS are as they were", x.of(0, 3), 4);
        Due.bytes(x, 0, 6, 0, 0, 0);
        x.rounds(0, 0, 1);
        DUE.is("16: a ROUND that came by a ROW", x.fuel(1, 2), 68);
        x.build(20, 44);
        DUE.is("16: one that was built", x.fuel(2, 4), 22);
        x.unbuild();
        DUE.is("16: one that went", x.fuel(2, 4), -1);
        DUE.is("17: all is gone", x.burns(3), 19);
        x.unbuild();
        DUE.is("17: all is gone", x.burns(3), 15);
        x.mend(0, 2, 4);
        DUE.is("17: damp", x.burns(3), 10);
        x.undo();
        DUE.is("17: undone", x.burns(3), 15);
        x.redo();
        DUE.is("17: done again", x.burns(3), 10);
        x.mend(0, 3, 9);
        DUE.is("17: WIND", x.burns(3), 4);
    }
}
