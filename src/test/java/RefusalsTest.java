import java.lang.reflect.Method;
import java.util.ArrayList;
import java.util.List;
import java.util.function.Consumer;
import java.util.function.Supplier;

/** What is refused changes nothing; of several reasons the one that is named first is told; what is in thought stays there. */
public final class RefusalsTest {
    private static final Due DUE = new Due("RefusalsTest");
    private static final int BAD = -1, NOT = -2, FULL = -3, STATE = -5, MISSING = -11, OTHER_KIND = -12, NO_PLACE = -13,
        BELOW_ZERO = -14, VOID = -2000000000, MIN = Integer.MIN_VALUE, MAX = Integer.MAX_VALUE;

    private static String name;
    private static Supplier<PalletSky> made;
    private static List<List<Long>> before;

    public static void main(String[] args) {
        bare();
        some();
        badOfSome();
        inThought();
        fullStack();
        fullChanges();
        fullActs();
        lacking();
        poor();
        lost();
        traceAndTape();
        DUE.end();
    }

    // ---- how it is asked

    private static void in(String state, Supplier<PalletSky> how) {
        name = state;
        made = how;
        before = looks(x -> { });
    }

    private static List<List<Long>> looks(Consumer<PalletSky> call) {
        List<List<Long>> all = new ArrayList<>();
        for (int part = 0; part < Looks.PARTS; part++) {
            PalletSky x = made.get();
            call.accept(x);
            all.add(Looks.part(part, x));
        }
        return all;
    }

    private static long answer(PalletSky x, String call, int... args) {
        try {
            for (Method m : PalletSky.class.getMethods()) {
                if (m.getName().equals(call)) {
                    Object[] told = new Object[args.length];
                    for (int i = 0; i < args.length; i++) {
                        told[i] = m.getParameterTypes()[i] == long.class ? (Object) (long) args[i] : (Object) args[i];
                    }
                    return ((Number) m.invoke(x, told)).longValue();
                }
            }
        } catch (ReflectiveOperationException e) {
            throw new IllegalStateException(call, e);
        }
        throw new IllegalArgumentException(call);
    }

    private static String text(String call, int... args) {
        StringBuilder text = new StringBuilder(name + ": " + call + "(");
        for (int i = 0; i < args.length; i++) {
            text.append(i == 0 ? "" : ", ").append(args[i]);
        }
        return text + ")";
    }

    /** The answer is the one that is due, and all is as it was ahead of the call. */
    private static void refused(long due, String call, int... args) {
        DUE.is(text(call, args), answer(made.get(), call, args), due);
        unchanged(call, args);
    }

    private static void unchanged(String call, int... args) {
        List<List<Long>> behind = looks(x -> answer(x, call, args));
        for (int part = 0; part < Looks.PARTS; part++) {
            DUE.is(text(call, args) + " changes nothing, part " + part, behind.get(part).equals(before.get(part)) ? 1 : 0, 1);
        }
    }

    // ---- states

    private static final int[][] CHANGES = {{0, 3, 2}, {0, 4, -1}, {1, 5, 2}, {0, 6, 90}, {2, 2, 1}, {0, 0, 3}, {0, 7, 9},
        {0, 6, 70}, {0, 3, 1}};

    /**
     * Of everything some. SHELF 0: bytes, 1: shorts, 2: a ROUND, 3: nothing, 4: longs, 5: booleans. undos: how many of the
     * nine CHANGES are UNDONE.
     */
    private static PalletSky something(String tape, int undos, boolean image, boolean acts) {
        PalletSky x = new PalletSky();
        x.build(40, 44);
        x.build(31, 54);
        x.build(52, 43);
        x.pane(1003);
        x.pane(502);
        for (int[] c : CHANGES) {
            x.mend(c[0], c[1], c[2]);
        }
        for (int i = 0; i < undos; i++) {
            x.undo();
        }
        Due.told(x, "f/5+1");
        Due.feed(x, tape);
        x.watch(1, 1);
        x.watch(7, 1);
        x.nights(99, 3);
        if (image) {
            x.image();
        }
        x.nights(5, 2);
        x.watch(7, 0);
        x.watch(9, 1);
        for (int kind = 0; kind < 8; kind++) {
            x.body(kind);
        }
        Due.bytes(x, 0, 3, 1, 0, 0, 2, 0, -1, 0, 1, 0);
        x.row(1, 1, 3);
        x.put(1, 2, 300);
        x.keep(2, 4);
        x.row(4, 3, 6);
        x.put(4, 1, 1L << 40);
        x.row(5, 4, 6);
        x.put(5, 5, 1);
        if (acts) {
            x.act(7, 3, 9);
        }
        return x;
    }

    private static PalletSky something() {
        return something("f>3?", 2, true, true);
    }

    /** 24 ROUNDS, 8 PANES, all NIGHTS gone, besides something. */
    private static PalletSky stacked() {
        PalletSky x = something();
        for (int i = 3; i < 24; i++) {
            x.rounds(0, 0, 1);
        }
        for (int i = 2; i < 8; i++) {
            x.pane(500 + 100 * i + i);
        }
        x.nights(4, 25);
        return x;
    }

    /** THE TAPE of 120 bytes, 50 BODIES, besides something; SHELF 4: 60 longs, 5: no element, 2: the last BODY. */
    private static PalletSky acting() {
        StringBuilder tape = new StringBuilder("f+1");
        while (tape.length() < 119) {
            tape.append("+1");
        }
        PalletSky x = something(tape.append('+').toString(), 2, true, false);
        for (int i = 8; i < 50; i++) {
            x.body(i % 8);
        }
        x.row(4, 3, 60);
        x.put(4, 59, -1L);
        x.row(5, 0, 0);
        x.keep(2, 49);
        x.act(47, 3, 1);
        return x;
    }

    // ---- what is refused

    private static void bare() {
        in("bare", PalletSky::new);
        refused(STATE, "unbuild");
        refused(STATE, "back");
        refused(STATE, "undo");
        refused(STATE, "redo");
        refused(STATE, "straight", 1, 0);
        refused(BAD, "straight", 0, 0);
        refused(BAD, "straight", 10, 1);
        refused(BAD, "straight", 1, 2);
        refused(0, "rounds", 0, 0, 15);
        refused(0, "rounds", 5, MIN, 1);
        refused(BAD, "rounds", 0, 0, 0);
        refused(NOT, "falls", 0);
        refused(NOT, "falls", 1);
        refused(BAD, "falls", 2);
        refused(NOT, "topples", 0);
        refused(BAD, "topples", 4);
        refused(NOT, "burns", 0);
        refused(NOT, "burns", 1);
        refused(NOT, "burns", 2);
        refused(BAD, "burns", 4);
        refused(NOT, "led", 1);
        refused(0, "boarded", -1);
        refused(BAD, "broad", 0);
        refused(BAD, "fuel", 0, 0);
        refused(BAD, "heat", 0, 0);
        refused(BAD, "cracks", 0, 0);
        refused(BAD, "boarded", 0);
        refused(BAD, "judge", 0, 0);
        refused(VOID, "mend", 0, 0, 1);
        refused(VOID, "mend", 0, 2, 0);
        refused(VOID, "mend", 0, 5, 1);
        refused(VOID, "of", 0, 0);
        refused(VOID, "of", 0, 10);
        refused(BAD, "trace", 0);
        refused(0, "act", 0, 0, 1);
        refused(BAD, "keep", 0, 0);
        refused(MISSING, "put", 0, 0, 1);
        refused(MISSING, "shift", 0, 0, 1, 0, 0);
        refused(MISSING, "taken", 0, 0);
        refused(Long.MIN_VALUE, "element", 0, 0);
    }

    /** What is refused by more than BAD, and what stands for several reasons. */
    private static void some() {
        in("some", RefusalsTest::something);
        // rounds: BAD, then -12
        refused(OTHER_KIND, "rounds", 1, 0, 1);
        refused(OTHER_KIND, "rounds", 2, MAX, 15);
        refused(OTHER_KIND, "rounds", 4, -1, 1);
        refused(OTHER_KIND, "rounds", 5, 0, 1);
        refused(BAD, "rounds", 1, 0, 0);
        refused(BAD, "rounds", 2, 0, 16);
        refused(0, "rounds", 3, 0, 1);
        refused(0, "rounds", 0, -1, 1);
        refused(0, "rounds", 0, 7, 1);
        refused(0, "rounds", 0, 10, 15);
        refused(0, "rounds", 0, MAX, 15);
        // nights: BAD, then STATE; best has no STATE
        refused(STATE, "nights", 1, 26);
        refused(STATE, "nights", 1, 30);
        refused(BAD, "nights", 1, 31);
        refused(BAD, "best", 1, 26, 0);
        // judge: BAD of SHELF or PANE, -11, -12
        refused(MISSING, "judge", 3, 0);
        refused(BAD, "judge", 3, 2);
        refused(OTHER_KIND, "judge", 1, 0);
        refused(OTHER_KIND, "judge", 2, 1);
        refused(BAD, "judge", 2, -1);
        // a ROW: BAD ahead of a size below 0
        refused(BELOW_ZERO, "row", 0, 0, -1);
        refused(BELOW_ZERO, "row", 2, 4, MIN);
        refused(BAD, "row", 0, 5, -1);
        refused(BAD, "row", 6, 0, -1);
        refused(BAD, "row", -1, -1, MIN);
        // put, element: BAD, -11, -12, -13
        refused(BAD, "put", 6, -1, 1);
        refused(MISSING, "put", 3, -1, 1);
        refused(OTHER_KIND, "put", 2, -1, 1);
        refused(NO_PLACE, "put", 0, -1, 1);
        refused(NO_PLACE, "put", 0, 10, 1);
        refused(Long.MIN_VALUE, "element", 3, 0);
        refused(Long.MIN_VALUE, "element", 2, 0);
        refused(Long.MIN_VALUE, "element", 0, 10);
        // shift: BAD (either), -11 (either), -12, -13
        refused(BAD, "shift", 3, -1, 6, -1, -1);
        refused(BAD, "shift", -1, -1, 3, -1, -1);
        refused(MISSING, "shift", 3, -1, 2, -1, -1);
        refused(MISSING, "shift", 2, -1, 3, -1, -1);
        refused(MISSING, "shift", 3, 0, 3, 0, 0);
        refused(OTHER_KIND, "shift", 2, -1, 0, -1, -1);
        refused(OTHER_KIND, "shift", 0, -1, 2, -1, -1);
        refused(OTHER_KIND, "shift", 2, 0, 2, 0, 0);
        refused(OTHER_KIND, "shift", 0, 11, 1, 11, 11);
        refused(OTHER_KIND, "shift", 4, 0, 5, 0, 0);
        refused(NO_PLACE, "shift", 0, 11, 0, 0, 0);
        refused(NO_PLACE, "shift", 0, 3, 0, 0, 8);
        refused(NO_PLACE, "shift", 0, 0, 0, 1, 10);
        refused(NO_PLACE, "shift", 4, 0, 4, 1, -1);
        // taken: BAD, -11, -12
        refused(BAD, "taken", 3, 8);
        refused(BAD, "taken", 6, 0);
        refused(MISSING, "taken", 3, 0);
        refused(OTHER_KIND, "taken", 0, 0);
        refused(OTHER_KIND, "taken", 2, 7);
        refused(OTHER_KIND, "taken", 2, 2);
        // the same number told again is no change, and what may be DONE AGAIN stays
        refused(90, "mend", 0, 6, 90);
        refused(3, "mend", 0, 0, 3);
        refused(2, "mend", 0, 3, 2);
        // it is so already
        refused(2, "watch", 9, 1);
        refused(2, "watch", 29, 0);
        refused(0, "shift", 0, 10, 0, 10, 0);
        refused(1, "keep", 3, -1);
    }

    /** What is BAD, either side of what is in. */
    private static void badOfSome() {
        in("some", RefusalsTest::something);
        int[][] twos = {{9, 44}, {100, 44}, {-10, 44}, {1, 44}, {23, 44}, {10, -1}, {10, 89}, {10, 9}, {MAX, 44}, {10, MIN}};
        for (int[] t : twos) {
            refused(BAD, "build", t);
        }
        int[][] threes = {{-1, 0, 1}, {6, 0, 1}, {0, 0, 0}, {0, 0, 16}, {0, 0, MIN}, {MAX, MAX, MAX}};
        for (int[] t : threes) {
            refused(BAD, "rounds", t);
        }
        ones("pane", 99, 10000, 124, 9924, 0, -100, MIN, MAX);
        int[][] mends = {{0, 0, -5}, {0, 0, 5}, {0, 1, -5}, {0, 1, 5}, {1, 2, -1}, {1, 2, 4}, {0, 3, -10}, {0, 3, 10}, {0, 4, -10},
            {0, 4, 10}, {0, 5, -1}, {0, 5, 10}, {0, 6, 0}, {0, 6, 1000}, {0, 7, -1}, {0, 7, 13}, {3, 0, 1}, {3, 1, 1}, {3, 2, 1},
            {-1, 0, 1}, {1, 3, 1}, {1, 4, 1}, {2, 5, 1}, {-1, 5, 1}, {1, 6, 1}, {1, 7, 1}, {-1, 7, 1}, {0, 8, 1}, {0, -1, 1},
            {MAX, MAX, MAX}, {MIN, 0, MIN}};
        for (int[] m : mends) {
            refused(VOID, "mend", m);
        }
        int[][] ofs = {{3, 0}, {-1, 6}, {2, 10}, {-1, 12}, {1, 20}, {-1, 28}, {0, -1}, {0, 7}, {0, 9}, {0, 13}, {0, 19}, {0, 29}};
        for (int[] o : ofs) {
            refused(VOID, "of", o);
        }
        ones("feed", -1, 256, MIN, MAX);
        ones("falls", -1, 2);
        ones("topples", -1, 4);
        ones("broad", -1, 3);
        ones("burns", -1, 4);
        ones("boarded", -2, 2);
        ones("led", -1, 2);
        ones("body", -1, 8);
        ones("trace", -1, 14, 24, MAX);
        ones("count", -1, 7);
        twos("straight", 0, 0, 10, 0, 1, -1, 1, 2);
        twos("fuel", -1, 0, 3, 0, 0, -1, 0, 61);
        twos("heat", -1, 0, 2, 0, 0, -1, 0, 61);
        twos("cracks", -1, 0, 2, 0, 0, -1, 0, 2);
        twos("watch", -1, 1, 30, 1, 0, -1, 0, 2);
        twos("nights", 1, 0, 1, 31, 1, MIN);
        twos("judge", -1, 0, 6, 0, 0, -1, 0, 2);
        twos("keep", -1, 0, 6, 0, 0, -2, 0, 8);
        twos("taken", -1, 0, 6, 0, 2, -1, 2, 8);
        int[][] bests = {{1, 0, 0}, {1, 26, 0}, {1, -1, 1}, {1, 1, -1}, {1, 1, 2}};
        for (int[] b : bests) {
            refused(BAD, "best", b);
        }
        int[][] rows = {{-1, 0, 1}, {6, 0, 1}, {0, -1, 1}, {0, 5, 1}, {0, 0, 61}, {0, 0, MAX}};
        for (int[] r : rows) {
            refused(BAD, "row", r);
        }
    }

    private static void ones(String call, int... values) {
        for (int v : values) {
            refused(BAD, call, v);
        }
    }

    private static void twos(String call, int... values) {
        for (int i = 0; i + 1 < values.length; i += 2) {
            refused(BAD, call, values[i], values[i + 1]);
        }
    }

    /** Calls that answer, but are in thought. */
    private static void inThought() {
        in("in thought", RefusalsTest::something);
        int[][] nothing = {{}};
        int[][] one = {{0}, {1}, {2}, {3}};
        int[][] two = {{0, 0}, {1, 1}, {2, 0}};
        for (String call : new String[] {"without", "highest"}) {
            unchanged(call, nothing[0]);
        }
        for (String call : new String[] {"falls", "topples", "broad", "burns", "boarded", "rival", "led", "trace", "count"}) {
            for (int[] args : one) {
                unchanged(call, args);
            }
        }
        for (String call : new String[] {"of", "straight", "fuel", "heat", "cracks", "judge", "element", "taken"}) {
            for (int[] args : two) {
                unchanged(call, args);
            }
        }
        unchanged("boarded", -1);
        unchanged("straight", 9, 0);
        unchanged("best", 5, 25, 0);
        unchanged("best", 5, 25, 1);
        unchanged("judge", 0, 0);
    }

    private static void fullStack() {
        in("24 ROUNDS, 8 PANES, 30 NIGHTS", RefusalsTest::stacked);
        // build: BAD, FULL, STATE
        refused(FULL, "build", 10, 44);
        refused(FULL, "build", 99, 0);
        refused(BAD, "build", 10, 49);
        refused(BAD, "build", 12, 44);
        refused(0, "rounds", 0, 0, 15);
        refused(0, "rounds", 0, 4, 1);
        refused(BAD, "rounds", 0, 0, 16);
        refused(OTHER_KIND, "rounds", 1, 0, 1);
        refused(FULL, "pane", 100);
        refused(FULL, "pane", 9923);
        refused(BAD, "pane", 124);
        // straight: BAD, FULL
        refused(FULL, "straight", 1, 0);
        refused(FULL, "straight", 9, 1);
        refused(BAD, "straight", 0, 0);
        refused(BAD, "straight", 1, 2);
        refused(0, "highest");
        refused(STATE, "nights", 1, 1);
        refused(STATE, "nights", 1, 30);
        refused(BAD, "nights", 1, 31);
        refused(BAD, "nights", 1, 0);
        refused(BAD, "best", 1, 1, 0);
        refused(BAD, "best", 1, 0, 1);
        refused(BAD, "broad", 24);
        refused(BAD, "fuel", 24, 0);
        refused(BAD, "heat", 8, 0);
        refused(BAD, "cracks", 8, 1);
        refused(BAD, "boarded", 8);
        refused(VOID, "mend", 24, 0, 1);
        refused(VOID, "mend", 8, 5, 1);
        refused(VOID, "of", 24, 3);
        refused(VOID, "of", 8, 10);
    }

    private static void fullChanges() {
        in("40 changes", () -> {
            PalletSky x = something("f>3?", 0, true, true);
            for (int i = 1; i <= 45; i++) {
                x.mend(0, 6, i);
            }
            return x;
        });
        refused(STATE, "redo");
        refused(45, "mend", 0, 6, 45);
        refused(VOID, "mend", 0, 6, 0);
        refused(VOID, "mend", 0, 6, 1000);
        in("40 UNDONE", () -> {
            PalletSky x = something("f>3?", 9, true, true);
            for (int i = 1; i <= 40; i++) {
                x.mend(0, 6, i);
            }
            for (int i = 1; i <= 40; i++) {
                x.undo();
            }
            return x;
        });
        refused(STATE, "undo");
        refused(200, "mend", 0, 6, 200);
        refused(VOID, "mend", 1, 6, 7);
        in("all are UNDONE", () -> something("f>3?", 9, true, true));
        refused(STATE, "undo");
        in("none is UNDONE", () -> something("f>3?", 0, true, true));
        refused(STATE, "redo");
    }

    private static void fullActs() {
        in("120 bytes, 50 BODIES", RefusalsTest::acting);
        refused(FULL, "feed", 0);
        refused(FULL, "feed", 255);
        refused(BAD, "feed", 256);
        refused(BAD, "feed", -1);
        refused(FULL, "body", 0);
        refused(FULL, "body", 7);
        refused(BAD, "body", 8);
        refused(BAD, "body", -1);
        refused(BAD, "keep", 0, 50);
        refused(BAD, "trace", 14);
        refused(BAD, "trace", 24);
        refused(NO_PLACE, "put", 4, 60, 1);
        refused(NO_PLACE, "put", 5, 0, 1);
        refused(Long.MIN_VALUE, "element", 5, 0);
        refused(NO_PLACE, "shift", 4, 0, 4, 1, 60);
        refused(NO_PLACE, "shift", 5, 0, 5, 0, 1);
        refused(NO_PLACE, "shift", 5, 0, 0, 0, 1);
        refused(OTHER_KIND, "shift", 5, 0, 4, 0, 0);
        refused(0, "shift", 5, 0, 5, 0, 0);
        refused(0, "rounds", 5, 0, 1);
        refused(NOT, "judge", 5, 0);
        refused(OTHER_KIND, "judge", 4, 0);
    }

    /** Something, but no ROUND, no PANE, no IMAGE, or a stack that falls. */
    private static void lacking() {
        in("no ROUND", () -> {
            PalletSky x = something();
            for (int i = 0; i < 3; i++) {
                x.unbuild();
            }
            return x;
        });
        refused(STATE, "unbuild");
        refused(STATE, "straight", 9, 1);
        refused(BAD, "straight", 9, 2);
        refused(BAD, "broad", 0);
        refused(BAD, "fuel", 0, 0);
        refused(VOID, "mend", 0, 0, 1);
        refused(VOID, "of", 0, 6);
        refused(NOT, "falls", 0);
        refused(NOT, "topples", 1);
        refused(0, "without");
        in("no IMAGE", () -> something("f>3?", 2, false, true));
        refused(STATE, "back");
        in("no PANE", () -> {
            PalletSky x = new PalletSky();
            x.build(40, 44);
            Due.bytes(x, 0, 1, 2, 3);
            x.row(1, 1, 1);
            return x;
        });
        // BAD ahead of what the SHELF holds
        refused(BAD, "judge", 0, 0);
        refused(BAD, "judge", 1, 0);
        refused(BAD, "judge", 3, 0);
        refused(VOID, "mend", 0, 5, 1);
        refused(VOID, "of", 0, 11);
        refused(BAD, "heat", 0, 0);
        refused(0, "boarded", -1);
        in("it falls", () -> {
            PalletSky x = something();
            x.build(10, 88);
            x.build(90, 84);
            return x;
        });
        DUE.is("it falls", made.get().falls(0), 0);
        refused(0, "highest");
        refused(0, "without");
        refused(0, "topples", 0);
        refused(NOT, "broad", 2);
        refused(0, "burns", 0);
    }

    /** STORE lacks dry or damp ones, one of them or both. */
    private static void poor() {
        in("4 dry, 2 damp ones", () -> {
            PalletSky x = something();
            while (x.of(0, 24) > 4 || x.of(0, 25) > 2) {
                int dry = Math.min(4, x.of(0, 24) - 4), damp = Math.min(5, x.of(0, 25) - 2);
                x.build(10 * (dry + damp) + damp, 44);
            }
            return x;
        });
        int[] lacking = {50, 33, 43, 44, 61, 72, 99, 90, 63};
        for (int pd : lacking) {
            refused(STATE, "build", pd, 44);
        }
        // BAD ahead of STATE
        refused(BAD, "build", 90, 49);
        refused(BAD, "build", 34, 44);
        PalletSky x = made.get();
        DUE.is("all that is there is enough", x.build(62, 44) >= 0 ? 1 : 0, 1);
        DUE.is("none is left", x.of(0, 24) + x.of(0, 25), 0);
        DUE.is("no dry one", x.build(10, 44), STATE);
        DUE.is("no damp one", x.build(11, 44), STATE);
    }

    /** The ROUND of the latest change is not there. */
    private static void lost() {
        in("a ROUND that may be UNDONE is lost", () -> {
            PalletSky x = something("f>3?", 0, true, true);
            x.mend(2, 1, 2);
            x.unbuild();
            return x;
        });
        refused(STATE, "undo");
        refused(STATE, "redo");
        in("a ROUND that may be DONE AGAIN is lost", () -> {
            PalletSky x = something("f>3?", 0, true, true);
            x.mend(2, 2, 0);
            x.mend(0, 6, 150);
            x.undo();
            x.undo();
            x.unbuild();
            return x;
        });
        refused(STATE, "redo");
        // the change ahead of it may still be UNDONE and DONE AGAIN, but none behind what is lost
        PalletSky x = made.get();
        DUE.is("lost: undo", x.undo(), 8);
        DUE.is("lost: WIND", x.of(0, 20), 2);
        DUE.is("lost: redo", x.redo(), 2);
        DUE.is("lost: WIND", x.of(0, 20), 1);
        DUE.is("lost: redo of what is lost", x.redo(), STATE);
        DUE.is("lost: LIMIT", x.of(0, 22), 70);
    }

    /** A refused act() takes THE TRACE away and nothing else; a FAULT takes THE TAPE away and nothing else. */
    private static void traceAndTape() {
        made = () -> something("k+2", 2, true, false);
        before = looks(x -> { });
        made = () -> something("k+2", 2, true, true);
        int[][] acts = {{8, 0, 1}, {-1, 0, 1}, {0, 4, 1}, {0, -1, 1}, {MAX, 3, 1}, {MIN, MIN, MIN}};
        for (int[] a : acts) {
            DUE.is("32: refused act", answer(made.get(), "act", a), 0);
            unchanged("act", a);
        }
        made = () -> something("", 2, true, true);
        before = looks(x -> { });
        for (String text : new String[] {"f+", "f+)", "12345", ";", "((((((("}) {
            made = () -> something(text, 2, true, true);
            name = "THE TAPE " + text;
            unchanged("law");
        }
        // without a text: an empty THE TAPE is a FAULT at 0, and changes nothing at all
        made = () -> something("", 2, true, true);
        name = "an empty TAPE";
        refused(-100, "law");
    }
}
