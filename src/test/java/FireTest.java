/** Promises 16 to 20, and what THE LAW of promise 9 gives. */
public final class FireTest {
    private static final Due DUE = new Due("FireTest");

    public static void main(String[] args) {
        fuel();
        firstFuel();
        lit();
        litTooLate();
        worth();
        held();
        wraps();
        names();
        withoutText();
        falls();
        halves();
        burntOut();
        outInTime();
        heat();
        heatCut();
        cracks();
        limits();
        tillItFalls();
        boarded();
        boards();
        inThought();
        DUE.end();
    }

    private static void fuel() {
        PalletSky x = new PalletSky();
        DUE.is("16: none", x.fuel(0, 0), -1);
        x = Due.stack(4, 1, 0, 0);
        DUE.is("16: round", x.fuel(1, 0), -1);
        DUE.is("16: round", x.fuel(-1, 0), -1);
        DUE.is("16: minute", x.fuel(0, -1), -1);
        DUE.is("16: minute", x.fuel(0, 61), -1);
        // 44 at first; (4 + 0) / 2 + 1 a minute
        DUE.is("16: behind minute 0", x.fuel(0, 0), 41);
        DUE.is("16: behind minute 13", x.fuel(0, 13), 2);
        DUE.is("16: no more than is left", x.fuel(0, 14), 0);
        DUE.is("16: behind minute 60", x.fuel(0, 60), 0);
        x.mend(0, 3, -3);
        x.mend(0, 4, 4);
        DUE.is("16: WIND without signs, (4 + 7) / 2 + 1", x.fuel(0, 0), 38);
        x.mend(0, 2, 4);
        DUE.is("16: all damp", x.fuel(0, 0), 26);
    }

    /** 12 for each dry PALLET, 8 for each damp one. */
    private static void firstFuel() {
        for (int pallets = 1; pallets <= 9; pallets++) {
            for (int damp = 0; damp <= pallets; damp++) {
                PalletSky x = Due.stack(pallets, damp, 0, 0);
                Due.told(x, "0");
                DUE.is("16: FUEL of " + pallets + ", " + damp, x.fuel(0, 0), 12 * (pallets - damp) + 8 * damp);
                DUE.is("16: and at the end", x.fuel(0, 60), 12 * (pallets - damp) + 8 * damp);
                // more DAMP than dry: 4 minutes, else 2
                PalletSky y = Due.stack(9, 9, 0, 0, pallets, damp, 0, 0);
                Due.told(y, "1");
                int from = 2 * damp > pallets ? 4 : 2, first = y.fuel(1, 0);
                DUE.is("16: not LIT yet", y.fuel(1, from - 1), first);
                DUE.is("16: LIT", y.fuel(1, from), first - 1);
            }
        }
    }

    /** LIT in minute 60, and never till then. */
    private static void litTooLate() {
        int[] fours = new int[96];
        for (int i = 0; i < 96; i += 4) {
            fours[i] = 1;
            fours[i + 1] = 1;
        }
        PalletSky x = Due.stack(fours);
        Due.told(x, "1");
        for (int i = 0; i < 24; i++) {
            DUE.is("16: ROUND " + i + " of damp ones", x.fuel(i, 60), Math.min(8, Math.max(0, 8 - (61 - 4 * i))));
        }
        DUE.is("16: ROUND 15 ahead of minute 60", x.fuel(15, 59), 8);
        DUE.is("16: ROUND 15 in minute 60", x.fuel(15, 60), 7);
        DUE.is("16: ROUND 16 never", x.fuel(16, 60), 8);
        DUE.is("17: so not all is BURNT OUT", x.burns(3), -2);
        // what is LIT hangs on all ROUNDS below: dry ones come sooner
        x.mend(1, 2, 0);
        x.mend(15, 2, 0);
        DUE.is("16: ROUND 16 by two dry ones below", x.fuel(16, 60), 7);
        DUE.is("16: not sooner", x.fuel(16, 59), 8);
    }

    private static void lit() {
        // dry; two of four damp; three of four damp; dry
        PalletSky x = Due.stack(4, 4, 0, 0, 4, 2, 0, 0, 4, 3, 0, 0, 4, 0, 0, 0);
        int[] first = {32, 40, 36, 48}, lit = {0, 2, 6, 8};
        for (int i = 0; i < 4; i++) {
            for (int minute = 0; minute <= 60; minute++) {
                int burns = minute < lit[i] ? 0 : 3 * (minute - lit[i] + 1);
                DUE.is("16: fuel(" + i + ", " + minute + ")", x.fuel(i, minute), Math.max(0, first[i] - burns));
            }
        }
    }

    /** A text that gives what is told: the FUEL left of 108 tells it, if it is 0 to 108. */
    private static void gives(String text, int due) {
        PalletSky x = Due.stack(9, 0, 0, 0);
        DUE.is("9: law " + text, Due.told(x, text), 1);
        DUE.is("9: " + text, 108 - x.fuel(0, 0), due);
    }

    private static void worth() {
        gives("7", 7);
        gives("0007", 7);
        gives("9999", 108);
        gives("0-5", 0);
        gives("-5", 0);
        gives("2+3*4", 14);
        gives("(2+3)*4", 20);
        gives("20-5-3", 12);
        gives("20-(5-3)", 18);
        gives("40/3/2", 6);
        gives("40%7*3", 15);
        gives("7/0", 0);
        gives("7%0+3", 3);
        gives("50+(0-7)/2", 47);
        gives("50+(0-7)%3", 49);
        gives("50--3", 53);
        gives("50---3", 47);
        gives("50-!0", 49);
        gives("!5+2", 2);
        gives("!0+2", 3);
        gives("!(5=5)", 0);
        gives("-2+9", 7);
        gives("-(2+9)+50", 39);
        gives("-2*-3", 6);
        gives("7|0", 1);
        gives("0|0", 0);
        gives("2|8", 1);
        gives("6&1", 1);
        gives("6&0", 0);
        gives("1|1&0", 1);
        gives("0&1|1", 1);
        gives("1<2&3", 1);
        gives("2<2", 0);
        gives("2>2", 0);
        gives("3>2", 1);
        gives("2=2", 1);
        gives("2=3", 0);
        gives("1+2=3", 1);
        gives("0<-1", 0);
        gives("5>3|0", 1);
        gives("2*3=6&1", 1);
        // ints wrap: 9999 * 9999 * 22 is 2199560022, so less than 0; and once more it is not
        gives("9999*9999*22", 0);
        gives("9999*9999*22<0", 1);
        gives("0-9999*9999*22>0", 1);
        gives("(9999*9999*22+4)%100", 0);
        gives("0-(9999*9999*22+4)%100", 70);
        // the least int by -1: 65536 * 32768
        gives("1-(8192*8192*32/-1<0)+1", 1);
        gives("8192*8192*32%-1+4", 4);
        gives("--(8192*8192*32)<0", 1);
        // LINES
        gives("0?5;6", 6);
        gives("1?5;6", 5);
        gives("-1?5;6", 5);
        gives("0?5;0?6", 0);
        gives("5;6", 5);
        gives("0;6", 0);
        gives("0?5;2>1?7;8", 7);
        gives("1?0;6", 0);
        // the longest: 120 bytes, a part each
        StringBuilder longest = new StringBuilder("-0");
        while (longest.length() < 120) {
            longest.append("+1");
        }
        gives(longest.toString(), 59);
        StringBuilder lines = new StringBuilder("0?1");
        while (lines.length() + 4 < 118) {
            lines.append(";0?1");
        }
        gives(lines + ";7", 7);
    }

    /** What burns is held within 0 .. FUEL left. */
    private static void held() {
        gives("107", 107);
        gives("108", 108);
        gives("109", 108);
        gives("f", 108);
        gives("f-1", 107);
        gives("f+1", 108);
        gives("1", 1);
        gives("0", 0);
        gives("-1", 0);
        gives("0-1", 0);
        gives("8192*8192*32", 0);
        gives("8192*8192*32-1", 108);
        PalletSky x = Due.stack(1, 1, 0, 0);
        Due.told(x, "5");
        int[] left = {3, 0, 0};
        for (int minute = 0; minute < 3; minute++) {
            DUE.is("16: 5 of 8, then 3, then none", x.fuel(0, minute), left[minute]);
        }
        Due.told(x, "4-8*(m%2)");
        int[] less = {4, 4, 0, 0};
        for (int minute = 0; minute < 4; minute++) {
            DUE.is("16: 4, then none of -4, then 4", x.fuel(0, minute), less[minute]);
        }
    }

    /** Whether a text gives what is told, which need not be within 0 .. FUEL. */
    private static void equal(String text, int due) {
        StringBuilder told = new StringBuilder(text).append('=');
        // told by its halves of four digits at most: due = (a * 9999 + b) * 9999 + c
        long rest = due;
        long c = Math.floorMod(rest, 9999L);
        rest = Math.floorDiv(rest, 9999L);
        long b = Math.floorMod(rest, 9999L), a = Math.floorDiv(rest, 9999L);
        told.append('(').append(a < 0 ? "-" : "").append(Math.abs(a)).append("*9999+").append(b).append(")*9999+").append(c);
        gives(told.toString(), 1);
    }

    /** Ints that wrap; / and % toward 0, by 0 they give 0. */
    private static void wraps() {
        int big = 9999 * 9999, min = Integer.MIN_VALUE, max = Integer.MAX_VALUE;
        String least = "8192*8192*32", most = "(8192*8192*32-1)";
        equal("9999*9999", big);
        equal("9999*9999*9999", big * 9999);
        equal("9999*9999*9999*9999", big * big);
        equal(least, min);
        equal(most, max);
        equal(most + "+1", min);
        equal(least + "-1", max);
        equal("0-" + least, min);
        equal("-(" + least + ")", min);
        equal("-" + most, -max);
        equal(most + "*2", -2);
        equal(most + "*" + most, 1);
        equal(least + "/-1", min);
        equal(least + "%-1", 0);
        equal(least + "/2", min / 2);
        equal(most + "/-2", max / -2);
        equal("7/2", 3);
        equal("-7/2", -3);
        equal("7/-2", -3);
        equal("-7/-2", 3);
        equal("7%2", 1);
        equal("-7%2", -1);
        equal("7%-2", 1);
        equal("-7%-2", -1);
        equal("1/2", 0);
        equal("-1/2", 0);
        equal("5/0", 0);
        equal("-5/0", 0);
        equal("0/0", 0);
        equal("5%0", 0);
        equal("-5%0", 0);
        equal("0%0", 0);
        equal(least + "/0", 0);
        equal("6/(3-3)+1", 1);
        // compared as ints, too
        gives(least + "<" + most, 1);
        gives(most + "+1<0", 1);
        gives(least + "=-(" + least + ")", 1);
        gives("!" + most, 0);
        gives("!!(" + least + ")", 1);
        gives("!(" + least + "*2)", 1);
        gives(least + "&" + least, 1);
        gives(least + "*2&1", 0);
        gives("-1|0", 1);
    }

    /** p and w, by 2 (cut), and 1. */
    private static void withoutText() {
        for (int pallets = 1; pallets <= 9; pallets++) {
            PalletSky x = Due.stack(pallets, 0, 0, 0);
            for (int wind = 0; wind <= 18; wind++) {
                x.mend(0, 3, wind < 9 ? wind : -9);
                x.mend(0, 4, wind < 9 ? 0 : 9 - wind);
                DUE.is("9: p " + pallets + ", w " + wind, 12 * pallets - x.fuel(0, 0),
                    Math.min(12 * pallets, (pallets + wind) / 2 + 1));
            }
        }
    }

    private static void names() {
        PalletSky x = Due.stack(5, 3, 0, 0, 4, 1, 0, 0);
        x.mend(0, 3, -2);
        x.mend(0, 4, 3);
        // ROUND 0: 48 at first, LIT at 0; ROUND 1: 44, LIT at 2
        String[] texts = {"f=48", "f=44", "p", "d", "k+3", "m", "w", "f/2"};
        int[] zero = {1, 0, 5, 3, 3, 0, 5, 24}, one = {0, 1, 4, 1, 4, 2, 5, 22};
        for (int i = 0; i < texts.length; i++) {
            Due.told(x, texts[i]);
            DUE.is("9: " + texts[i] + " of ROUND 0 in minute 0", 48 - x.fuel(0, 0), zero[i]);
            DUE.is("9: " + texts[i] + " of ROUND 1 in minute 2", x.fuel(1, 1) - x.fuel(1, 2), one[i]);
            DUE.is("9: ROUND 1 ahead of minute 2", x.fuel(1, 1), 44);
        }
        DUE.is("9: f is what is left", x.fuel(0, 1), 12);
        Due.told(x, "m");
        DUE.is("9: 48 less 0, 1, 2, .., 9", x.fuel(0, 9), 3);
        DUE.is("9: and no more than is left", x.fuel(0, 10), 0);
        Due.told(x, "m=60?1;0");
        DUE.is("9: minute 59", x.fuel(0, 59), 48);
        DUE.is("9: minute 60", x.fuel(0, 60), 47);
        // p stays what it was as FUEL goes
        Due.told(x, "p");
        DUE.is("9: p", x.fuel(0, 8), 3);
    }

    private static void falls() {
        PalletSky x = new PalletSky();
        DUE.is("17: below", x.burns(-1), -1);
        DUE.is("17: above", x.burns(4), -1);
        DUE.is("17: bare", x.burns(0), -2);
        DUE.is("17: bare", x.burns(2), -2);
        DUE.is("17: bare, all FUEL is gone", x.burns(3), 0);
        // one FUEL a minute: ROUND 1 has half its 48 behind minute 25, ROUND 0 of 5 half its 60 behind minute 29
        x = Due.stack(5, 0, 0, 0, 4, 0, 0, 1);
        Due.told(x, "1");
        DUE.is("17: 12 of 3 * 2 * 2, later 0 of 0", x.burns(0), -2);
        x.mend(0, 4, 1);
        DUE.is("17: 13 of 12", x.burns(0), 29);
        DUE.is("17: at", x.burns(1), 0);
        DUE.is("17: whither", x.burns(2), 1);
        // none holds nothing, but bears no PUSH at all
        x = Due.stack(1, 0, 0, 0, 4, 0, 0, 0);
        Due.told(x, "k=0");
        DUE.is("17: straight", x.burns(0), -2);
        x.mend(0, 3, -1);
        DUE.is("17: gone behind minute 11", x.burns(0), 11);
        DUE.is("17: whither", x.burns(2), 2);
        // 1 at least
        x = Due.stack(1, 0, 0, 0, 1, 0, 0, 0);
        Due.told(x, "k=0");
        x.mend(0, 3, 3);
        DUE.is("17: half of one counts as one", x.burns(0), 11);
        // half of three, cut, is one: 24 of 36, then of 12 behind minute 5
        x = Due.stack(3, 0, 0, 0, 4, 0, 1, 0);
        Due.told(x, "k=0?3;0");
        DUE.is("17: one of three", x.burns(0), 5);
        x = Due.stack(5, 0, 0, 0, 4, 0, 1, 0);
        Due.told(x, "k=0?3;0");
        DUE.is("17: two of five till none is left", x.burns(0), 19);
        // what is above gets lighter, what bears it less; ROUND 1 of 9 counts 4 behind minute 2 + 53
        x = Due.stack(9, 0, 0, 0, 9, 0, 0, 0, 2, 0, 0, 2);
        Due.told(x, "k=1");
        DUE.is("17: 24 of 24", x.burns(0), -2);
        x.mend(0, 4, 1);
        DUE.is("17: 25 of 24", x.burns(0), 55);
        DUE.is("17: at ROUND 1", x.burns(1), 1);
        DUE.is("17: half: 54 of 108", x.fuel(1, 55), 54);
        // ROUNDS without PALLETS are still above: WIND
        x = Due.stack(1, 0, 0, 0, 1, 0, 0, 0, 1, 0, 0, 0);
        x.mend(0, 4, -1);
        Due.told(x, "k=2?12;0");
        DUE.is("17: ROUND 1 bears none, and 1 of WIND", x.burns(0), 4);
        DUE.is("17: at ROUND 1", x.burns(1), 1);
        DUE.is("17: back", x.burns(2), 3);
        // it falls ahead of a fire: minute 0
        x = Due.stack(1, 0, 0, 0, 1, 0, -4, 0);
        DUE.is("17: minute 0", x.burns(0), 0);
        DUE.is("17: left", x.burns(2), 2);
        // in the last minute
        x = Due.stack(1, 0, 0, 0, 4, 0, 0, 0);
        x.mend(0, 3, 1);
        Due.told(x, "k=0&m=60?12;0");
        DUE.is("17: minute 60", x.burns(0), 60);
    }

    /** What falls in minute 0 by so much burning of ROUND 0, if it is to bear more than it then can. */
    private static void half(int pallets, int wind, int burns, int due) {
        PalletSky x = Due.stack(pallets, 0, 0, 0, 1, 0, 0, 0);
        x.mend(0, 3, wind);
        Due.told(x, "k=0&m=0?" + burns + ";0");
        DUE.is("17: " + burns + " of " + 12 * pallets + " against " + wind, x.burns(0), due);
        DUE.is("17: FUEL that is left", x.fuel(0, 60), 12 * pallets - burns);
    }

    /** Half its first FUEL or less: half its PALLETS, cut, 1 at least; none: no PALLETS. */
    private static void halves() {
        // 3 by 3: 9, by 1: 3, by none: 0
        half(3, 9, 0, -2);
        half(3, 9, 17, -2);
        half(3, 9, 18, 0);
        half(3, 9, 19, 0);
        half(3, 4, 17, -2);
        half(3, 4, 18, 0);
        half(3, 3, 18, -2);
        half(3, 3, 35, -2);
        half(3, 3, 36, 0);
        half(3, 1, 35, -2);
        half(3, 1, 36, 0);
        half(3, 0, 36, -2);
        // 2 by 1, 1 by 1 till none is left
        half(2, 4, 11, -2);
        half(2, 4, 12, 0);
        half(2, 3, 12, -2);
        half(2, 3, 23, -2);
        half(2, 3, 24, 0);
        half(1, 3, 6, -2);
        half(1, 3, 11, -2);
        half(1, 3, 12, 0);
        // 4 by 2 (6), 5 by 2 (6)
        half(4, 6, 24, -2);
        half(4, 7, 23, -2);
        half(4, 7, 24, 0);
        half(5, 6, 30, -2);
        half(5, 7, 29, -2);
        half(5, 7, 30, 0);
        // half is passed between two minutes: 29, 22, 15 of 36
        PalletSky x = Due.stack(3, 0, 0, 0, 4, 0, 1, 0);
        Due.told(x, "k=0?7;0");
        DUE.is("17: 15 of 36", x.burns(0), 2);
        // damp ones: 8 each, half of 16
        x = Due.stack(2, 2, 0, 0, 1, 0, 0, 0);
        x.mend(0, 4, -4);
        Due.told(x, "k=0?1;0");
        DUE.is("17: 8 of 16", x.burns(0), 7);
        DUE.is("17: back", x.burns(2), 3);
        // what is above counts less too: ROUND 1 of 9 bears 8 above, then 4: 24 of 216, 24 of 108
        x = Due.stack(9, 0, 0, 0, 1, 0, 0, 0, 8, 0, 0, 0);
        x.mend(0, 3, 9);
        Due.told(x, "k=2&m=4?48;0");
        DUE.is("17: 9 against 3 * 1 * 8, then 3 * 1 * 4", x.burns(0), -2);
        Due.told(x, "k=2&m=4?96;0");
        DUE.is("17: then 3 * 1 * 0", x.burns(0), 4);
        DUE.is("17: at ROUND 1", x.burns(1), 1);
    }

    /** BURNT OUT and FALLS in minute 60 are in time, behind it is not. */
    private static void outInTime() {
        PalletSky x = Due.stack(5, 0, 0, 0);
        int[] from = {0, 1, 2};
        int[] due = {59, 60, -2};
        for (int i = 0; i < 3; i++) {
            Due.told(x, "m<" + from[i] + "?0;1");
            DUE.is("17: 60 from minute " + from[i] + " on", x.burns(3), due[i]);
        }
        // it falls as ROUND 0 has half of its 60
        x = Due.stack(5, 0, 0, 0, 1, 0, 0, 0);
        x.mend(0, 4, 9);
        for (int first = 29; first <= 33; first++) {
            Due.told(x, "k=1?0;m<" + first + "?0;1");
            int minute = first + 29;
            DUE.is("17: falls in " + minute, x.burns(0), minute <= 60 ? minute : -2);
            DUE.is("17: at", x.burns(1), minute <= 60 ? 0 : -2);
            DUE.is("17: whither", x.burns(2), minute <= 60 ? 1 : -2);
        }
        // ROUNDS that are never LIT keep their FUEL
        DUE.is("17: no ROUND, no FUEL", new PalletSky().burns(3), 0);
        Due.told(x, "0");
        DUE.is("17: none burns", x.burns(3), -2);
    }

    private static void burntOut() {
        PalletSky x = Due.stack(5, 0, 0, 0);
        Due.told(x, "1");
        DUE.is("17: 60 behind minute 59", x.burns(3), 59);
        x = Due.stack(6, 1, 0, 0);
        Due.told(x, "1");
        DUE.is("17: 68", x.burns(3), -2);
        Due.told(x, "m=60?f;0");
        DUE.is("17: minute 60", x.burns(3), 60);
        Due.told(x, "f");
        DUE.is("17: all at once", x.burns(3), 0);
        x = Due.stack(2, 0, 0, 0, 3, 3, 0, 0, 1, 0, 0, 0);
        Due.told(x, "f");
        DUE.is("17: the topmost is LIT at 6", x.burns(3), 6);
        Due.told(x, "k=1?0;f");
        DUE.is("17: one never", x.burns(3), -2);
    }

    private static void heat() {
        PalletSky x = new PalletSky();
        DUE.is("18: no pane", x.heat(0, 0), -1);
        x = Due.stack(4, 0, 0, 0, 6, 0, 0, 0, 2, 0, 0, 0);
        x.pane(702);
        DUE.is("18: pane", x.heat(1, 0), -1);
        DUE.is("18: pane", x.heat(-1, 0), -1);
        DUE.is("18: minute", x.heat(0, -1), -1);
        DUE.is("18: minute", x.heat(0, 61), -1);
        DUE.is("18: 300 by 9", x.heat(0, 0), 33);
        DUE.is("18: 300 by 9, 400 by 8", x.heat(0, 2), 83);
        DUE.is("18: and 200 by 7, cut each", x.heat(0, 4), 33 + 50 + 28);
        x.mend(0, 5, 2);
        DUE.is("18: BOARDS", x.heat(0, 4), 71);
        x.mend(0, 5, 9);
        DUE.is("18: 0 at least", x.heat(0, 4), 0);
        DUE.is("18: the last minute", x.heat(0, 60), 0);
        x.pane(723);
        DUE.is("18: as high as ROUND 23", x.heat(1, 0), 10);
        x.pane(9900);
        DUE.is("18: far", x.heat(2, 0), 3);
        x.pane(100);
        DUE.is("18: near", x.heat(3, 0), 300);
    }

    /** By FAR and how many ROUNDS above or below, together; cut each; less 20 for each of BOARDS, 0 at least. */
    private static void heatCut() {
        PalletSky x = Due.stack(2, 0, 0, 0, 2, 0, 0, 0, 2, 0, 0, 0);
        Due.told(x, "2");
        x.pane(601);
        DUE.is("18: 28.57 and 33.33 and 28.57, cut each", x.heat(0, 4), 28 + 33 + 28);
        x.pane(9900);
        x.pane(9923);
        x.pane(100);
        x.pane(123);
        DUE.is("18: the farthest", x.heat(1, 4), 2 + 2 + 1);
        DUE.is("18: the farthest and highest", x.heat(2, 4), 1 + 1 + 1);
        DUE.is("18: the nearest", x.heat(3, 4), 200 + 100 + 66);
        DUE.is("18: as high as ROUND 23", x.heat(4, 4), 8 + 8 + 9);
        // 89 less 20 each: 69, 49, 29, 9, 0
        for (int boards = 0; boards <= 9; boards++) {
            x.mend(0, 5, boards);
            DUE.is("18: " + boards + " BOARDS", x.heat(0, 4), Math.max(0, 89 - 20 * boards));
            DUE.is("19: HOTTEST behind " + boards, x.cracks(0, 1), Math.max(0, 89 - 20 * boards));
        }
        // just 20, and one more
        PalletSky y = Due.stack(4, 0, 0, 0);
        y.pane(500);
        Due.told(y, "1");
        DUE.is("18: 20", y.heat(0, 0), 20);
        y.mend(0, 5, 1);
        DUE.is("18: 20 less 20", y.heat(0, 0), 0);
        y.mend(0, 5, 2);
        DUE.is("18: 20 less 40", y.heat(0, 0), 0);
        // no ROUNDS, no HEAT
        PalletSky z = new PalletSky();
        z.pane(100);
        DUE.is("18: no ROUNDS", z.heat(0, 0), 0);
        DUE.is("19: no ROUNDS", z.cracks(0, 0), -2);
        DUE.is("19: no ROUNDS", z.cracks(0, 1), 0);
        DUE.is("20: no ROUNDS", z.boarded(0), 0);
    }

    /** LIMIT from 1 to 999. */
    private static void limits() {
        PalletSky x = Due.stack(1, 0, 0, 0);
        Due.told(x, "m=7");
        x.pane(9901);
        x.mend(0, 6, 1);
        DUE.is("18: 100 by 100", x.heat(0, 7), 1);
        DUE.is("19: 0 is less than 1, 1 is not", x.cracks(0, 0), 7);
        DUE.is("19: HOTTEST", x.cracks(0, 1), 1);
        DUE.is("20: one is enough", x.boarded(0), 1);
        x.mend(0, 6, 2);
        DUE.is("19: 1 is less than 2", x.cracks(0, 0), -2);
        DUE.is("20: none is needed", x.boarded(0), 0);
        Due.told(x, "0");
        x.mend(0, 6, 1);
        DUE.is("19: 0 is less than 1", x.cracks(0, 0), -2);
        DUE.is("19: HOTTEST of none, without BOARDS", x.cracks(0, 1), 0);
        // 900, 66 and 33
        PalletSky y = Due.stack(9, 0, 0, 0, 9, 0, 0, 0, 9, 0, 0, 0, 9, 0, 0, 0, 9, 0, 0, 0);
        y.pane(102);
        y.mend(0, 6, 999);
        Due.told(y, "m=20?(k=2)*9+(k=0)*2+(k=4);0");
        DUE.is("18: 999", y.heat(0, 20), 999);
        DUE.is("19: 999 is LIMIT", y.cracks(0, 0), 20);
        y.mend(0, 5, 1);
        DUE.is("19: 979", y.cracks(0, 0), -2);
        y.mend(0, 5, 0);
        Due.told(y, "m=20?(k=2)*9+(k=0)*2;0");
        DUE.is("18: 966", y.heat(0, 20), 966);
        DUE.is("19: 966", y.cracks(0, 0), -2);
        y.mend(0, 6, 966);
        DUE.is("19: 966 is LIMIT", y.cracks(0, 0), 20);
        y.mend(0, 6, 967);
        DUE.is("19: one less than LIMIT", y.cracks(0, 0), -2);
    }

    /** Till it FALLS; that minute counts, the one behind it does not. */
    private static void tillItFalls() {
        PalletSky x = Due.stack(2, 0, 0, 0, 1, 0, 0, 0);
        x.pane(100);
        x.mend(0, 3, 4);
        // ROUND 0 has 13 of 24 behind minute 9, 12 behind minute 10
        for (int hot = 8; hot <= 12; hot++) {
            Due.told(x, "k=1?(m=" + hot + ")*8;m=0?2;m<11");
            DUE.is("17: falls", x.burns(0), 10);
            DUE.is("18: hot in " + hot, x.heat(0, hot), 400 + (hot < 11 ? 100 : 0));
            DUE.is("19: CRACKS by 200 in minute 0", x.cracks(0, 0), 0);
            x.mend(0, 6, 201);
            DUE.is("19: CRACKS by more than 200", x.cracks(0, 0), hot <= 10 ? hot : -2);
            DUE.is("20: BOARDED", x.boarded(0), hot <= 10 ? -2 : 0);
            x.mend(0, 6, 500);
            DUE.is("20: BOARDED by 500", x.boarded(0), hot <= 10 ? 1 : 0);
            DUE.is("19: HOTTEST of all", x.cracks(0, 1), 400 + (hot < 11 ? 100 : 0));
            x.mend(0, 6, 200);
        }
    }

    private static void cracks() {
        PalletSky x = new PalletSky();
        DUE.is("19: no pane", x.cracks(0, 0), -1);
        // burns m a minute: HEAT 10 m at FAR 10
        x = Due.stack(9, 0, 0, 0);
        Due.told(x, "m");
        x.pane(1000);
        DUE.is("19: pane", x.cracks(1, 0), -1);
        DUE.is("19: what", x.cracks(0, 2), -1);
        DUE.is("19: what", x.cracks(0, -1), -1);
        DUE.is("19: NOT: 14 is most", x.cracks(0, 0), -2);
        DUE.is("19: 1 + .. + 14 is 105, then 3", x.cracks(0, 1), 140);
        x.mend(0, 6, 140);
        DUE.is("19: LIMIT or more", x.cracks(0, 0), 14);
        x.mend(0, 6, 141);
        DUE.is("19: less than LIMIT", x.cracks(0, 0), -2);
        x.mend(0, 6, 45);
        DUE.is("19: the first", x.cracks(0, 0), 5);
        x.mend(0, 5, 3);
        DUE.is("19: BOARDS", x.cracks(0, 0), 11);
        DUE.is("19: HOTTEST behind them", x.cracks(0, 1), 80);
        Due.told(x, "m=60?f;0");
        DUE.is("19: minute 60", x.cracks(0, 0), 60);
        DUE.is("19: HOTTEST in minute 60", x.cracks(0, 1), 1020);
        DUE.is("20: minute 60", x.boarded(0), -2);
        Due.told(x, "0");
        DUE.is("19: none burns", x.cracks(0, 1), 0);
        DUE.is("19: none burns", x.cracks(0, 0), -2);
        Due.told(x, "m=0?50;0");
        DUE.is("19: minute 0", x.cracks(0, 0), 0);
        DUE.is("19: HOTTEST in minute 0", x.cracks(0, 1), 440);
        x.mend(0, 6, 401);
        DUE.is("20: minute 0", x.boarded(0), 5);
        x.mend(0, 6, 45);
        // it falls: that minute counts, none behind it; ROUND 0 of 1 is gone behind minute 3 by 0, 1, 2, 9
        x = Due.stack(1, 0, 0, 0, 4, 0, 0, 0);
        x.mend(0, 3, 1);
        x.pane(1000);
        Due.told(x, "m<4?3;f");
        DUE.is("19: falls", x.burns(0), 3);
        x.mend(0, 6, 57);
        DUE.is("19: 3 by 10 and 3 by 11", x.heat(0, 3), 57);
        DUE.is("19: hot behind it", x.heat(0, 4), 42 * 100 / 11);
        DUE.is("19: that minute counts", x.cracks(0, 0), 2);
        Due.told(x, "m=3?12;m>3?f;0");
        DUE.is("19: 120 and 12 by 11 in that minute", x.cracks(0, 0), 3);
        DUE.is("19: HOTTEST of all 60 minutes", x.cracks(0, 1), 36 * 100 / 11);
        x.mend(0, 6, 300);
        DUE.is("19: not behind it", x.cracks(0, 0), -2);
    }

    private static void boarded() {
        PalletSky x = Due.stack(9, 0, 0, 0);
        DUE.is("20: without PANES", x.boarded(-1), 0);
        DUE.is("20: no pane", x.boarded(0), -1);
        DUE.is("20: no pane", x.boarded(-2), -1);
        Due.told(x, "m");
        x.pane(1000);
        x.pane(500);
        DUE.is("20: none is needed", x.boarded(0), 0);
        DUE.is("20: 280 less 80 is LIMIT", x.boarded(1), 5);
        DUE.is("20: together", x.boarded(-1), 5);
        x.mend(0, 6, 101);
        DUE.is("20: 140 less 40 is below 101", x.boarded(0), 2);
        DUE.is("20: 280 less 180 is below 101", x.boarded(1), 9);
        DUE.is("20: together", x.boarded(-1), 11);
        x.mend(0, 5, 9);
        DUE.is("20: whatever BOARDS are there", x.boarded(0), 2);
        x.mend(0, 6, 100);
        DUE.is("20: 280 less 180 is 100", x.boarded(1), -2);
        DUE.is("20: NOT", x.boarded(-1), -2);
        DUE.is("20: the other", x.boarded(0), 3);
        DUE.is("20: no such pane", x.boarded(2), -1);
        // only till it falls
        x = Due.stack(1, 0, 0, 0, 4, 0, 0, 0);
        x.mend(0, 3, 1);
        x.pane(1000);
        Due.told(x, "m=3?12;m>3?f;0");
        x.mend(0, 6, 100);
        DUE.is("20: 229 in minute 3: 120 and 109", x.boarded(0), 7);
        x.mend(1, 0, 4);
        DUE.is("20: it falls at once", x.boarded(0), 0);
    }

    /** The fewest BOARDS, from none to 9, on each PANE; NOT: 9 are not enough for one. */
    private static void boards() {
        PalletSky x = Due.stack(9, 0, 0, 0);
        Due.told(x, "m=0?30;0");
        int[] limits = {301, 300, 282, 281, 280, 262, 261, 260, 141, 140, 122, 121, 120, 101, 100};
        int[] due = {0, 1, 1, 1, 2, 2, 2, 3, 8, 9, 9, 9, -2, -2, -2};
        x.pane(1000);
        for (int i = 0; i < limits.length; i++) {
            x.mend(0, 6, limits[i]);
            DUE.is("20: 300 by LIMIT " + limits[i], x.boarded(0), due[i]);
            DUE.is("20: together", x.boarded(-1), due[i]);
        }
        // eight PANES together; one for which 9 are not enough
        x = Due.stack(9, 0, 0, 0);
        Due.told(x, "m=0?30;0");
        x.mend(0, 6, 121);
        int sum = 0;
        for (int i = 0; i < 8; i++) {
            DUE.is("20: together, " + i, x.boarded(-1), sum);
            x.pane(100 * (10 + i));
            int glow = 3000 / (10 + i), fewest = Math.max(0, (glow - 121) / 20 + 1);
            DUE.is("20: of one", x.boarded(i), fewest);
            sum += fewest;
        }
        DUE.is("20: eight together", x.boarded(-1), sum);
        // what is there does not matter, nor is any put there
        x.mend(3, 5, 9);
        DUE.is("20: together", x.boarded(-1), sum);
        DUE.is("20: in thought", x.of(2, 12), 0);
        x.mend(0, 6, 120);
        DUE.is("20: NOT for the nearest", x.boarded(0), -2);
        DUE.is("20: so NOT together", x.boarded(-1), -2);
        DUE.is("20: the farthest", x.boarded(7), 3);
    }

    /** A fire is in thought, and of what is there as it is asked for. */
    private static void inThought() {
        PalletSky x = Due.stack(4, 0, 0, 0);
        DUE.is("16: fuel", x.fuel(0, 60), 0);
        DUE.is("16: PALLETS are as they were", x.of(0, 3), 4);
        Due.bytes(x, 0, 6, 0, 0, 0);
        x.rounds(0, 0, 1);
        DUE.is("16: a ROUND that came by a ROW", x.fuel(1, 2), 68);
        x.build(20, 44);
        DUE.is("16: one that was built", x.fuel(2, 4), 22);
        x.unbuild();
        DUE.is("16: one that went", x.fuel(2, 4), -1);
        DUE.is("17: all is gone", x.burns(3), 19);
        x.unbuild();
        DUE.is("17: all is gone", x.burns(3), 15);
        x.mend(0, 2, 4);
        DUE.is("17: damp", x.burns(3), 10);
        x.undo();
        DUE.is("17: undone", x.burns(3), 15);
        x.redo();
        DUE.is("17: done again", x.burns(3), 10);
        x.mend(0, 3, 9);
        DUE.is("17: WIND", x.burns(3), 4);
    }
}
