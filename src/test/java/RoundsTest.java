/** Promises 1 to 9. */
public final class RoundsTest {
    private static final Due DUE = new Due("RoundsTest");

    public static void main(String[] args) {
        newObject();
        build();
        unbuild();
        rounds();
        pane();
        mend();
        of();
        feed();
        lawFaults();
        lawStays();
        DUE.end();
    }

    private static void newObject() {
        PalletSky x = new PalletSky();
        int[] place = {0, 0, 200, 3, 20, 10, 0, 120, 0};
        for (int what = 20; what <= 28; what++) {
            DUE.is("1: of(0, " + what + ")", x.of(0, what), place[what - 20]);
        }
        for (int what = 0; what <= 6; what++) {
            DUE.is("1: count(" + what + ")", x.count(what), 0);
        }
        for (int shelf = 0; shelf <= 5; shelf++) {
            DUE.is("1: taken", x.taken(shelf, 0), -11);
        }
        DUE.is("1: falls", x.falls(0), -2);
        DUE.is("1: led", x.led(1), -2);
        DUE.is("1: back", x.back(), -5);
        DUE.is("1: redo", x.redo(), -5);
        DUE.is("1: watch", x.watch(0, 0), 0);
    }

    private static void build() {
        PalletSky x = new PalletSky();
        int[][] bad = {{9, 44}, {-10, 44}, {100, 44}, {12, 44}, {5, 44}, {10, 90}, {10, 9}, {10, 49}, {10, -1}, {10, 89},
            {Integer.MAX_VALUE, 44}, {10, Integer.MIN_VALUE}};
        for (int[] b : bad) {
            DUE.is("2: build(" + b[0] + ", " + b[1] + ")", x.build(b[0], b[1]), -1);
        }
        DUE.is("2: nothing came", x.count(0), 0);
        DUE.is("2: build", x.build(93, 8), 0);
        DUE.is("2: slip x", x.of(0, 0), -4);
        DUE.is("2: slip y", x.of(0, 1), 4);
        DUE.is("2: damp", x.of(0, 2), 3);
        DUE.is("2: pallets", x.of(0, 3), 9);
        DUE.is("2: dry in store", x.of(0, 24), 14);
        DUE.is("2: damp in store", x.of(0, 25), 7);
        DUE.is("2: all damp", x.build(77, 44), 1);
        DUE.is("2: no damp one left", x.build(11, 44), -5);
        DUE.is("2: one damp one too many", x.build(91, 44), -5);
        DUE.is("2: dry", x.build(90, 44), 2);
        DUE.is("2: dry lacks", x.build(60, 44), -5);
        DUE.is("2: just enough", x.build(50, 44), 3);
        DUE.is("2: none left", x.build(10, 44), -5);
        x = new PalletSky();
        DUE.is("2: the broadest, all damp, slipped back left", x.build(99, 0), 0);
        DUE.is("2: slip x", x.of(0, 0), -4);
        DUE.is("2: slip y", x.of(0, 1), -4);
        DUE.is("2: slipped fore right", x.build(10, 88), 1);
        DUE.is("2: slip x", x.of(1, 0), 4);
        DUE.is("2: slip y", x.of(1, 1), 4);
        DUE.is("2: slipped back right", x.build(10, 80), 2);
        DUE.is("2: slip x", x.of(2, 0), 4);
        DUE.is("2: slip y", x.of(2, 1), -4);
        x = new PalletSky();
        for (int i = 0; i < 20; i++) {
            DUE.is("2: build one", x.build(10, 44), i);
        }
        for (int i = 20; i < 24; i++) {
            DUE.is("2: build a damp one", x.build(11, 44), i);
        }
        DUE.is("2: FULL", x.build(11, 44), -3);
        DUE.is("2: FULL ahead of STATE", x.build(10, 44), -3);
        DUE.is("2: BAD ahead of FULL", x.build(12, 44), -1);
    }

    private static void unbuild() {
        PalletSky x = new PalletSky();
        DUE.is("3: none", x.unbuild(), -5);
        x.build(52, 44);
        x.build(31, 54);
        DUE.is("3: unbuild", x.unbuild(), 1);
        DUE.is("3: dry", x.of(0, 24), 17);
        DUE.is("3: damp", x.of(0, 25), 8);
        DUE.is("3: what is left", x.of(0, 3), 5);
        DUE.is("3: gone", x.of(1, 3), -2000000000);
        x.mend(0, 2, 5);
        DUE.is("3: unbuild as it is damp now", x.unbuild(), 0);
        DUE.is("3: dry as they were", x.of(0, 24), 17);
        DUE.is("3: damp, all five", x.of(0, 25), 13);
        // 99 of each at most
        x = new PalletSky();
        x.mend(0, 7, 0);
        x.nights(1, 30);
        for (int i = 0; i < 30; i++) {
            Due.bytes(x, 0, 9, i % 2 == 0 ? 9 : 0, 0, 0);
            x.rounds(0, 0, 1);
            x.unbuild();
        }
        DUE.is("3: dry at most", x.of(0, 24), 99);
        DUE.is("3: damp at most", x.of(0, 25), 99);
    }

    private static void rounds() {
        PalletSky x = new PalletSky();
        DUE.is("4: shelf", x.rounds(-1, 0, 1), -1);
        DUE.is("4: shelf", x.rounds(6, 0, 1), -1);
        DUE.is("4: n", x.rounds(0, 0, 0), -1);
        DUE.is("4: n", x.rounds(0, 0, 16), -1);
        DUE.is("4: missing", x.rounds(0, 0, 15), 0);
        DUE.is("4: missing, and no such place", x.rounds(0, -9, 1), 0);
        for (int sort = 1; sort <= 4; sort++) {
            x.row(0, sort, 4);
            DUE.is("4: no bytes", x.rounds(0, 0, 1), -12);
        }
        x.body(0);
        x.keep(0, 0);
        DUE.is("4: a ROUND", x.rounds(0, 0, 1), -12);
        Due.bytes(x, 1, 77, 9, 9, -4, 4, 1, 0, 4, -4, 5, 2, 1);
        DUE.is("4: not so", x.rounds(1, 0, 2), 0);
        DUE.is("4: a place that is not there", x.rounds(1, -1, 2), 0);
        DUE.is("4: far out", x.rounds(1, Integer.MAX_VALUE, 2), 0);
        DUE.is("4: far out", x.rounds(1, Integer.MIN_VALUE, 2), 0);
        DUE.is("4: behind", x.rounds(1, 12, 2), 0);
        DUE.is("4: one only", x.rounds(1, 1, 1), 1);
        DUE.is("4: ends within a four", x.rounds(1, 1, 3), 2);
        DUE.is("4: count", x.count(0), 3);
        int[] due = {4, -4, 0, 1, 0, 0};
        for (int what = 0; what < 4; what++) {
            DUE.is("4: of(2, " + what + ")", x.of(2, what), due[what]);
        }
        DUE.is("4: store", x.of(0, 24), 20);
        int[][] wrong = {{0, 0, 0, 0}, {10, 0, 0, 0}, {3, 4, 0, 0}, {3, -1, 0, 0}, {3, 0, 5, 0}, {3, 0, -5, 0}, {3, 0, 0, 5},
            {3, 0, 0, -5}, {-1, 0, 0, 0}};
        for (int[] w : wrong) {
            Due.bytes(x, 2, 2, 2, 1, 1, w[0], w[1], w[2], w[3], 2, 2, 1, 1);
            DUE.is("4: one is not so", x.rounds(2, 0, 3), 1);
            x.unbuild();
        }
        int[] many = new int[60];
        for (int i = 0; i < 60; i += 4) {
            many[i] = 1;
        }
        x = new PalletSky();
        Due.bytes(x, 0, many);
        DUE.is("4: fifteen", x.rounds(0, 0, 15), 15);
        DUE.is("4: till FULL", x.rounds(0, 0, 15), 9);
        DUE.is("4: FULL", x.rounds(0, 0, 15), 0);
        DUE.is("4: all", x.count(0), 24);
    }

    private static void pane() {
        PalletSky x = new PalletSky();
        int[] bad = {-1, 0, 99, 124, 199, 10000, 9924, -100, Integer.MAX_VALUE, Integer.MIN_VALUE};
        for (int fu : bad) {
            DUE.is("5: pane(" + fu + ")", x.pane(fu), -1);
        }
        int[] good = {100, 123, 9923, 9900, 1205, 300, 400, 500};
        for (int i = 0; i < 8; i++) {
            DUE.is("5: pane(" + good[i] + ")", x.pane(good[i]), i);
            DUE.is("5: far", x.of(i, 10), good[i] / 100);
            DUE.is("5: up", x.of(i, 11), good[i] % 100);
            DUE.is("5: boards", x.of(i, 12), 0);
        }
        DUE.is("5: FULL", x.pane(100), -3);
        DUE.is("5: BAD ahead of FULL", x.pane(99), -1);
        DUE.is("5: count", x.count(1), 8);
    }

    private static void mend() {
        PalletSky x = new PalletSky();
        x.build(32, 44);
        x.pane(500);
        int no = -2000000000;
        // number, what, lowest, highest, what it is
        int[][] ways = {{0, 0, -4, 4, 0}, {0, 1, -4, 4, 0}, {0, 2, 0, 3, 2}, {0, 3, -9, 9, 0}, {0, 4, -9, 9, 0}, {0, 5, 0, 9, 0},
            {0, 6, 1, 999, 200}, {0, 7, 0, 12, 3}};
        int[] asked = {0, 1, 2, 20, 21, 12, 22, 23};
        for (int[] w : ways) {
            String call = "6: mend what " + w[1];
            DUE.is(call + " below", x.mend(0, w[1], w[2] - 1), no);
            DUE.is(call + " above", x.mend(0, w[1], w[3] + 1), no);
            DUE.is(call + " not there", x.mend(1, w[1], w[2]), no);
            DUE.is(call + " not there", x.mend(-1, w[1], w[2]), no);
            DUE.is(call + " as before", x.of(0, asked[w[1]]), w[4]);
            DUE.is(call + " lowest", x.mend(0, w[1], w[2]), w[4]);
            DUE.is(call + " is", x.of(0, asked[w[1]]), w[2]);
            DUE.is(call + " highest", x.mend(0, w[1], w[3]), w[2]);
            DUE.is(call + " is", x.of(0, asked[w[1]]), w[3]);
        }
        DUE.is("6: no such", x.mend(0, 8, 1), no);
        DUE.is("6: no such", x.mend(0, -1, 1), no);
        DUE.is("6: far off", x.mend(0, 6, Integer.MAX_VALUE), no);
        DUE.is("6: far off", x.mend(Integer.MIN_VALUE, 0, 0), no);
        // no STORE has to do with it
        DUE.is("6: store", x.of(0, 25), 8);
    }

    private static void of() {
        PalletSky x = Due.stack(4, 2, 1, -2, 3, 1, 2, 3, 2, 0, -4, 0);
        int no = -2000000000;
        int[][] due = {{1, -2, 2, 4, 1, -2, 0}, {2, 3, 1, 3, 3, 1, 0}, {-4, 0, 0, 2, -1, 1, 1}};
        for (int i = 0; i < 3; i++) {
            for (int what = 0; what < 7; what++) {
                DUE.is("7: of(" + i + ", " + what + ")", x.of(i, what), due[i][what]);
            }
        }
        int[][] bad = {{3, 0}, {-1, 0}, {0, 7}, {0, 9}, {0, 10}, {0, 13}, {0, 19}, {1, 20}, {-1, 28}, {0, 29}, {0, -1},
            {0, Integer.MAX_VALUE}, {Integer.MAX_VALUE, 3}};
        for (int[] b : bad) {
            DUE.is("7: of(" + b[0] + ", " + b[1] + ")", x.of(b[0], b[1]), no);
        }
        DUE.is("7: HIGH", x.of(0, 26), 15);
        x.pane(9900);
        DUE.is("7: MAY BE, no bound above", x.of(0, 27), 297);
        x.pane(1405);
        x.pane(2000);
        DUE.is("7: MAY BE, the nearest", x.of(0, 27), 42);
        DUE.is("7: no such pane", x.of(3, 10), no);
        DUE.is("7: no such what", x.of(0, 13), no);
        DUE.is("7: no such what", x.of(0, 9), no);
        x.nights(3, 7);
        DUE.is("7: nights gone", x.of(0, 28), 7);
        // PUSH on ROUND 1 is 6 * 2 * (-4) and it bears 3 * 3 * 2; wind against it helps
        x.mend(0, 3, 9);
        x.mend(2, 0, -3);
        DUE.is("7: HOLDS not by 36 - 9 against 18", x.of(1, 6), 0);
        x.mend(2, 0, -2);
        DUE.is("7: HOLDS by 24 - 9", x.of(1, 6), 1);
        x.mend(0, 3, 6);
        DUE.is("7: HOLDS by just 18", x.of(1, 6), 1);
        x.mend(0, 3, 5);
        DUE.is("7: HOLDS not by 19", x.of(1, 6), 0);
        x.mend(0, 3, 9);
        x.mend(2, 1, 2);
        DUE.is("7: HOLDS not fore and back", x.of(1, 6), 0);
    }

    private static void feed() {
        PalletSky x = new PalletSky();
        DUE.is("8: below", x.feed(-1), -1);
        DUE.is("8: above", x.feed(256), -1);
        DUE.is("8: count", x.count(3), 0);
        DUE.is("8: lowest", x.feed(0), 1);
        DUE.is("8: highest", x.feed(255), 2);
        for (int i = 3; i <= 120; i++) {
            DUE.is("8: feed", x.feed('f'), i);
        }
        DUE.is("8: FULL", x.feed('f'), -3);
        DUE.is("8: BAD ahead of FULL", x.feed(256), -1);
        DUE.is("8: count", x.count(3), 120);
    }

    private static void fault(String text, int due) {
        PalletSky x = new PalletSky();
        DUE.is("9: law " + text, Due.told(x, text), due < 0 ? 1 : -100 - due);
        DUE.is("9: THE TAPE is empty", x.count(3), 0);
    }

    private static void lawFaults() {
        fault("", 0);
        String[] good = {"f", "0", "9999", "0000", "f+p-d*k/m%w", "1?2", "1?2;3;4?5", "a".replace('a', 'w'), "!!!!!!f", "------f",
            "((((((f))))))", "!-(!-(1))", "1--1", "1<2&3>4|5=6", "(1<2)<3", "1<2?3<4", "(1)*(2)", "!1?2", "0|!f&-p",
            "!!!!!!f+!!!!!!f", "!!!!!!1?------f;((((((2))))))", "!(-!(-1))?-(!-(!1))"};
        for (String text : good) {
            fault(text, -1);
        }
        // a text, and where its first wrong byte is (or its length)
        String[] texts = {"f?", "12345", "1<2<3", "1=2>3", "1?2?3", "(1?2)", "(1;2)", "()", "f)", "f;", ";f", "f;;f", " f", "f p",
            "1+", "1+*2", "fp", "2f", "f2", "(f", "!!!!!!!f", "-------f", "(((((((f", "!-!-!-(1)", "((((((!f", "x", "F", "1?;2",
            "+1", "f=!", "f,", "1?2;3)", "(1<2<3)", "1+(2*3", "!", "?1"};
        int[] due = {2, 5 - 1, 3, 3, 3, 2, 2, 1, 1, 2, 0, 2, 0, 1, 2, 2, 1, 1, 1, 2, 6, 6, 6, 6, 6, 0, 0, 2, 0, 3, 1, 5, 4, 6, 1,
            0};
        for (int i = 0; i < texts.length; i++) {
            fault(texts[i], due[i]);
        }
        fault("f" + (char) 233, 1);
        fault("f" + (char) 0, 1);
        fault("" + (char) 255, 0);
        StringBuilder longest = new StringBuilder("f");
        while (longest.length() + 2 <= 119) {
            longest.append("+f");
        }
        fault(longest.toString(), -1);
        fault(longest.append("+").toString(), 120);
    }

    private static void lawStays() {
        PalletSky x = Due.stack(3, 0, 0, 0);
        DUE.is("9: law", Due.told(x, "5"), 1);
        DUE.is("9: it counts", x.fuel(0, 0), 31);
        DUE.is("9: a FAULT", Due.told(x, "9;"), -102);
        DUE.is("9: the law before it counts", x.fuel(0, 0), 31);
        x.mend(0, 2, 3);
        DUE.is("9: and of another FUEL", x.fuel(0, 0), 19);
        DUE.is("9: a FAULT ahead of all", Due.told(x, ";9"), -100);
        x.mend(0, 2, 0);
        DUE.is("9: the law before it counts", x.fuel(0, 0), 31);
        DUE.is("9: another law", Due.told(x, "7"), 1);
        DUE.is("9: it counts", x.fuel(0, 0), 29);
    }
}
