/** Counts the answers of a test that are not the ones that are due. */
final class Due {
    private final String name;
    private int asked;
    private int wrong;

    Due(String name) {
        this.name = name;
    }

    void is(String call, long got, long want) {
        asked++;
        if (got != want) {
            wrong++;
            System.out.println(name + ": " + call + " answered " + got + ", due is " + want);
        }
    }

    static void feed(PalletSky x, String text) {
        for (int i = 0; i < text.length(); i++) {
            x.feed(text.charAt(i));
        }
    }

    /** Feeds a text byte by byte and makes it THE LAW: what law() answers. */
    static int told(PalletSky x, String text) {
        feed(x, text);
        return x.law();
    }

    /** A ROW of bytes on a SHELF. */
    static void bytes(PalletSky x, int shelf, int... values) {
        x.row(shelf, 0, values.length);
        for (int i = 0; i < values.length; i++) {
            x.put(shelf, i, values[i]);
        }
    }

    /** ROUNDS told by fours PALLETS, DAMP, SLIP x, y, laid without STORE by way of SHELF 5. */
    static PalletSky stack(int... fours) {
        PalletSky x = new PalletSky();
        for (int i = 0; i + 3 < fours.length; i += 4) {
            bytes(x, 5, fours[i], fours[i + 1], fours[i + 2], fours[i + 3]);
            x.rounds(5, 0, 1);
        }
        x.keep(5, -1);
        return x;
    }

    /** Four ROUNDS without SLIP, by which STORE has nothing, then STORE brought to so many by unbuilding ROUNDS from a ROW. */
    static PalletSky stored(int dry, int damp) {
        PalletSky x = new PalletSky();
        for (int pd : new int[] {99, 91, 90, 30}) {
            x.build(pd, 44);
        }
        int left = dry, wet = damp;
        while (left + wet > 0) {
            int p = Math.min(9, left + wet), d = Math.min(p, wet);
            bytes(x, 5, p, d, 0, 0);
            x.rounds(5, 0, 1);
            x.unbuild();
            left -= p - d;
            wet -= d;
        }
        x.keep(5, -1);
        return x;
    }

    void end() {
        System.out.println(name + ": " + asked + " answers, " + wrong + " not as due");
        if (wrong != 0) {
            System.exit(1);
        }
    }
}
