import java.util.Random;

/** Runs of 512 drawn calls, each on a new PalletSky and a new Oracle: every answer is to be the same. */
public final class OracleTest {
    private static final int RUNS = 1500, CALLS = 512;
    private static final Due DUE = new Due("OracleTest");

    private static Random dice;
    private static PalletSky x;
    private static Oracle y;
    private static String run;

    public static void main(String[] args) {
        for (int i = 0; i < RUNS; i++) {
            dice = new Random(i);
            x = new PalletSky();
            y = new Oracle();
            run = "run " + i;
            // Runs of different bents, so that all corners are come to: FULL stacks, long laws, many changes.
            int bent = i % 6;
            for (int call = 0; call < CALLS; call++) {
                boolean leans = dice.nextInt(3) == 0;
                int sort = leans ? bent : dice.nextInt(6);
                one(sort);
            }
            state();
        }
        DUE.end();
    }

    private static void one(int sort) {
        switch (sort) {
            case 0: rounds(); break;
            case 1: stands(); break;
            case 2: fire(); break;
            case 3: nights(); break;
            case 4: acts(); break;
            default: changes(); break;
        }
    }

    private static void is(String call, long got, long want) {
        DUE.is(run + " " + call, got, want);
    }

    /** Mostly from low to high, at times just outside, seldom far off. */
    private static int in(int low, int high) {
        int luck = dice.nextInt(40);
        if (luck == 0) return low - 1;
        if (luck == 1) return high + 1;
        if (luck == 2 && dice.nextInt(5) == 0) return dice.nextBoolean() ? Integer.MIN_VALUE : Integer.MAX_VALUE;
        return low + dice.nextInt(Math.max(1, high - low + 1));
    }

    private static void rounds() {
        int a, b, c;
        switch (dice.nextInt(8)) {
            case 0: case 1: {
                int p = 1 + dice.nextInt(9), mild = dice.nextInt(3) == 0 ? 4 : 1;
                a = dice.nextInt(20) == 0 ? in(0, 110) : 10 * p + dice.nextInt(1 + dice.nextInt(p + 1));
                b = dice.nextInt(20) == 0 ? in(0, 99)
                    : 10 * (4 + dice.nextInt(2 * mild + 1) - mild) + 4 + dice.nextInt(2 * mild + 1) - mild;
                is("build " + a + " " + b, x.build(a, b), y.build(a, b));
                break;
            }
            case 2:
                if (dice.nextInt(3) == 0) is("unbuild", x.unbuild(), y.unbuild());
                break;
            case 3: {
                int shelf = in(0, 5), n = dice.nextInt(10) == 0 ? in(-1, 60) : dice.nextInt(61);
                is("row " + n, x.row(shelf, 0, n), y.row(shelf, 0, n));
                for (int i = 0; i < n && i < 24; i++) {
                    int v = i % 4 == 0 ? in(1, 9) : i % 4 == 1 ? dice.nextInt(2) : in(-1, 1);
                    is("put", x.put(shelf, i, v), y.put(shelf, i, v));
                }
                a = in(0, 8);
                b = in(1, 15);
                is("rounds " + a + " " + b, x.rounds(shelf, a, b), y.rounds(shelf, a, b));
                break;
            }
            case 4:
                a = in(0, 5);
                b = in(-3, 62);
                c = in(1, 15);
                is("rounds " + a + " " + b + " " + c, x.rounds(a, b, c), y.rounds(a, b, c));
                break;
            case 5:
                a = 100 * in(1, 99) + in(0, 23);
                if (dice.nextInt(4) == 0) is("pane " + a, x.pane(a), y.pane(a));
                break;
            case 6:
                a = dice.nextBoolean() ? 0 : in(0, 23);
                b = in(0, 29);
                is("of " + a + " " + b, x.of(a, b), y.of(a, b));
                break;
            default:
                a = in(0, 6);
                is("count " + a, x.count(a), y.count(a));
                break;
        }
    }

    private static void stands() {
        int a, b;
        switch (dice.nextInt(7)) {
            case 0: a = in(0, 1); is("falls " + a, x.falls(a), y.falls(a)); break;
            case 1: a = in(0, 3); is("topples " + a, x.topples(a), y.topples(a)); break;
            case 2: a = in(0, 23); is("broad " + a, x.broad(a), y.broad(a)); break;
            case 3:
                a = in(1, 9);
                b = in(0, 1);
                is("straight " + a + " " + b, x.straight(a, b), y.straight(a, b));
                break;
            case 4: is("without", x.without(), y.without()); break;
            case 5: is("highest", x.highest(), y.highest()); break;
            default: a = in(0, 23); is("of 6 " + a, x.of(a, 6), y.of(a, 6)); break;
        }
    }

    private static void fire() {
        int a, b;
        switch (dice.nextInt(8)) {
            case 0: a = in(0, 12); b = in(0, 60); is("fuel " + a + " " + b, x.fuel(a, b), y.fuel(a, b)); break;
            case 1: a = in(0, 3); is("burns " + a, x.burns(a), y.burns(a)); break;
            case 2: a = in(0, 3); b = in(0, 60); is("heat " + a + " " + b, x.heat(a, b), y.heat(a, b)); break;
            case 3: a = in(0, 3); b = in(0, 1); is("cracks " + a + " " + b, x.cracks(a, b), y.cracks(a, b)); break;
            case 4: a = in(-1, 3); is("boarded " + a, x.boarded(a), y.boarded(a)); break;
            case 5: case 6:
                if (dice.nextInt(3) == 0) {
                    String text = line(dice.nextInt(12) == 0 ? 7 : 3);
                    while (dice.nextInt(3) == 0) text += ";" + line(2);
                    if (dice.nextInt(3) == 0) text = spoilt(text);
                    if (dice.nextInt(6) == 0) text = text + "+" + text + "+" + text;
                    for (int i = 0; i < text.length() && i < 130; i++) {
                        is("feed", x.feed(text.charAt(i)), y.feed(text.charAt(i)));
                    }
                    is("law " + text, x.law(), y.law());
                }
                break;
            default: a = in(0, 255); is("feed " + a, x.feed(a), y.feed(a)); break;
        }
    }

    private static String line(int depth) {
        return dice.nextInt(3) == 0 ? either(depth) + "?" + either(depth) : either(depth);
    }

    private static String either(int depth) {
        String[] operators = {"|", "&", "<", "=", ">", "+", "-", "*", "/", "%"};
        String text = operand(depth);
        while (dice.nextInt(5) < 3 && text.length() < 80) text += operators[dice.nextInt(10)] + operand(depth);
        return text;
    }

    private static String operand(int depth) {
        int luck = dice.nextInt(depth > 0 ? 12 : 8);
        if (luck < 5) return "fpdkmw".substring(luck, luck + 1);
        if (luck == 5) return "w";
        if (luck < 8) return "" + dice.nextInt(dice.nextInt(4) == 0 ? 20000 : 8);
        if (luck == 8) return "!" + operand(depth - 1);
        if (luck == 9) return "-" + operand(depth - 1);
        return "(" + either(depth - 1) + ")";
    }

    private static String spoilt(String text) {
        int at = dice.nextInt(text.length() + 1);
        String bytes = "fpdkmw0123456789|&<=>+-*/%()!?;; x\0" + (char) 233;
        char c = bytes.charAt(dice.nextInt(bytes.length()));
        if (dice.nextInt(4) == 0) return text.substring(0, at);
        return text.substring(0, at) + c + text.substring(dice.nextBoolean() || at == text.length() ? at : at + 1);
    }

    private static void nights() {
        int a, b, c;
        switch (dice.nextInt(9)) {
            case 0: a = in(0, 29); b = in(0, 1); is("watch " + a + " " + b, x.watch(a, b), y.watch(a, b)); break;
            case 1:
                a = dice.nextInt();
                b = dice.nextInt(6) == 0 ? in(1, 30) : in(1, 3);
                is("nights " + a + " " + b, x.nights(a, b), y.nights(a, b));
                break;
            case 2: case 3:
                a = dice.nextInt();
                b = in(1, 30 - y.store[2]);
                c = in(0, 1);
                is("best " + a + " " + b + " " + c, x.best(a, b, c), y.best(a, b, c));
                break;
            case 4: a = dice.nextInt(); is("rival " + a, x.rival(a), y.rival(a)); break;
            case 5: judged(); break;
            case 6: a = in(0, 1); is("led " + a, x.led(a), y.led(a)); break;
            case 7: is("image", x.image(), y.image()); break;
            default: if (dice.nextBoolean()) is("back", x.back(), y.back()); break;
        }
    }

    private static void judged() {
        int shelf = in(0, 5), pane = in(0, 2);
        if (dice.nextBoolean() && !y.panes.isEmpty() && shelf >= 0 && shelf < 6) {
            pane = dice.nextInt(y.panes.size());
            int n = dice.nextInt(61), wrong = dice.nextInt(61);
            is("row", x.row(shelf, 0, n), y.row(shelf, 0, n));
            for (int i = 0; i < n && i < 20; i++) {
                int h = Math.min(127, y.heat(pane, i)) + (i == wrong ? 1 : 0);
                is("put", x.put(shelf, i, h), y.put(shelf, i, h));
            }
        }
        is("judge " + shelf + " " + pane, x.judge(shelf, pane), y.judge(shelf, pane));
    }

    private static void acts() {
        int a, b, c, d, e;
        long v;
        switch (dice.nextInt(10)) {
            case 0: a = in(0, 7); is("body " + a, x.body(a), y.body(a)); break;
            case 1: case 2:
                a = in(0, Math.max(0, y.bodies.size() - 1));
                b = in(0, 3);
                c = dice.nextBoolean() ? dice.nextInt() : in(-5, 9);
                is("act " + a + " " + b + " " + c, x.act(a, b, c), y.act(a, b, c));
                for (int i = -1; i < 16; i += 3) is("trace " + i, x.trace(i), y.trace(i));
                break;
            case 3: a = in(0, 24); is("trace " + a, x.trace(a), y.trace(a)); break;
            case 4:
                a = in(0, 5);
                b = dice.nextInt(4) == 0 ? -1 : in(0, y.bodies.size() - 1);
                is("keep " + a + " " + b, x.keep(a, b), y.keep(a, b));
                break;
            case 5:
                a = in(0, 5);
                b = in(0, 4);
                c = dice.nextBoolean() ? in(0, 60) : in(0, 8);
                is("row " + a + " " + b + " " + c, x.row(a, b, c), y.row(a, b, c));
                break;
            case 6:
                a = in(0, 5);
                b = in(0, 9);
                v = dice.nextInt(4) == 0 ? dice.nextLong() : dice.nextInt(4) == 0 ? 1L << dice.nextInt(64) : in(-9, 300);
                is("put " + a + " " + b + " " + v, x.put(a, b, v), y.put(a, b, v));
                break;
            case 7: a = in(0, 5); b = in(0, 9); is("element " + a + " " + b, x.element(a, b), y.element(a, b)); break;
            case 8:
                a = in(0, 5);
                b = in(0, 8);
                c = dice.nextBoolean() ? a : in(0, 5);
                d = in(0, 8);
                e = in(0, 8);
                is("shift " + a + " " + b + " " + c + " " + d + " " + e, x.shift(a, b, c, d, e), y.shift(a, b, c, d, e));
                break;
            default: a = in(0, 5); b = in(0, 7); is("taken " + a + " " + b, x.taken(a, b), y.taken(a, b)); break;
        }
    }

    private static void changes() {
        int luck = dice.nextInt(10);
        if (luck < 2) {
            is("undo", x.undo(), y.undo());
        } else if (luck < 3) {
            is("redo", x.redo(), y.redo());
        } else {
            int[] low = {-4, -4, 0, -9, -9, 0, 1, 0}, high = {4, 4, 9, 9, 9, 9, 999, 12};
            int what = dice.nextInt(8);
            int number = what < 3 ? in(0, Math.max(0, y.stack.size() - 1)) : what == 5 ? in(0, 2) : in(0, 0);
            boolean mild = what < 2 || what == 3 || what == 4;
            int v = mild && dice.nextInt(3) > 0 ? in(-1, 1) : in(low[what], high[what]);
            int asked = dice.nextInt(30) == 0 ? in(-1, 9) : what;
            is("mend " + number + " " + asked + " " + v, x.mend(number, asked, v), y.mend(number, asked, v));
        }
    }

    /** All that can be asked at the end of a run without changing it. */
    private static void state() {
        for (int i = 0; i < 24; i++) {
            for (int what = 0; what < 29; what++) is("of " + i + " " + what, x.of(i, what), y.of(i, what));
        }
        for (int i = 0; i < 7; i++) is("count " + i, x.count(i), y.count(i));
        for (int i = 0; i < 6; i++) {
            for (int j = 0; j < 60; j++) is("element " + i + " " + j, x.element(i, j), y.element(i, j));
        }
        for (int i = 0; i < 4; i++) is("burns " + i, x.burns(i), y.burns(i));
    }
}
