import java.lang.reflect.InvocationTargetException;
import java.lang.reflect.Method;
import java.util.Arrays;
import java.util.Comparator;
import java.util.Random;

/** Rule 7: no call ever throws or fails to end, for any arguments in any state; and the same calls give the same answers. */
public final class AnyCallTest {
    private static final Due DUE = new Due("AnyCallTest");
    private static final int RUNS = 4000, CALLS = 512;
    private static final int[] ENDS = {Integer.MIN_VALUE, Integer.MIN_VALUE + 1, -1 << 24, -65536, -257, -128, -100, -15, -5, -4, -3,
        -2, -1, 0, 1, 2, 3, 4, 5, 6, 7, 8, 9, 10, 12, 15, 16, 22, 23, 24, 25, 29, 30, 31, 39, 40, 41, 44, 49, 50, 59, 60, 61, 88,
        99, 100, 119, 120, 121, 127, 128, 255, 256, 999, 1000, 9923, 32768, 65536, 1 << 24, 1 << 30, Integer.MAX_VALUE - 1,
        Integer.MAX_VALUE};

    private static final Method[] CALL = calls();

    public static void main(String[] args) throws Exception {
        DUE.is("all calls of the face", CALL.length, 39);
        for (int run = 0; run < RUNS; run++) {
            long first = run(run), second = run % 16 == 0 ? run(run) : first;
            DUE.is("13: run " + run + " again", second, first);
        }
        DUE.end();
    }

    private static Method[] calls() {
        Method[] all = PalletSky.class.getDeclaredMethods();
        all = Arrays.stream(all).filter(m -> java.lang.reflect.Modifier.isPublic(m.getModifiers())).toArray(Method[]::new);
        Arrays.sort(all, Comparator.comparing(Method::getName));
        return all;
    }

    /** What a run of drawn calls answers, as one number. */
    private static long run(int seed) throws Exception {
        Random dice = new Random(seed);
        PalletSky x = new PalletSky();
        // some runs take few of the calls, so that they come to what is full
        int few = seed % 3 == 0 ? 3 : CALL.length, from = dice.nextInt(CALL.length);
        // from which of the values most are drawn
        int low = dice.nextInt(ENDS.length - 8), wide = seed % 2 == 0 ? 8 : 20;
        long sum = 0;
        for (int i = 0; i < CALLS; i++) {
            Method m = CALL[dice.nextInt(5) == 0 ? dice.nextInt(CALL.length) : (from + dice.nextInt(few)) % CALL.length];
            Class<?>[] types = m.getParameterTypes();
            Object[] told = new Object[types.length];
            for (int j = 0; j < told.length; j++) {
                int v = value(dice, low, wide);
                told[j] = types[j] == long.class ? (Object) (dice.nextBoolean() ? v : dice.nextLong()) : (Object) v;
            }
            try {
                sum = 31 * sum + ((Number) m.invoke(x, told)).longValue();
            } catch (InvocationTargetException e) {
                DUE.is("7: run " + seed + ": " + m.getName() + Arrays.toString(told) + " threw " + e.getCause(), 1, 0);
            }
        }
        return sum;
    }

    private static int value(Random dice, int low, int wide) {
        int luck = dice.nextInt(8);
        if (luck == 0) {
            return dice.nextInt();
        }
        if (luck < 3) {
            return dice.nextInt(64) - 2;
        }
        return luck < 5 ? ENDS[dice.nextInt(ENDS.length)] : ENDS[Math.min(ENDS.length - 1, low + dice.nextInt(wide))];
    }
}
