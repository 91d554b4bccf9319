import java.lang.management.ManagementFactory;

/** All calls of a run live in one room: a call makes nothing, an object makes what it needs as it is made. */
public final class RoomTest {
    private static final Due DUE = new Due("RoomTest");

    public static void main(String[] args) {
        calls(new PalletSky());
        long ahead = made();
        PalletSky x = new PalletSky();
        long object = made() - ahead;
        ahead = made();
        calls(x);
        long calls = made() - ahead;
        DUE.is("the object is small: " + object, object < 60000 ? 1 : 0, 1);
        DUE.is("512 calls make nothing: " + calls, calls < 2000 ? 1 : 0, 1);
        DUE.end();
    }

    private static long made() {
        return ((com.sun.management.ThreadMXBean) ManagementFactory.getThreadMXBean())
            .getThreadAllocatedBytes(Thread.currentThread().getId());
    }

    /** Far more than 512, of all kinds. */
    private static void calls(PalletSky x) {
        for (int i = 0; i < 24; i++) {
            x.build(i % 2 == 0 ? 10 : 11, 44);
            x.pane(500 + i);
            x.body(i % 8);
            x.act(i, 3, i);
            x.trace(i);
            x.mend(0, 6, 1 + i);
            x.undo();
            x.redo();
            x.feed('f');
            x.law();
            x.row(i % 6, i % 5, 60);
            x.put(i % 6, i, i);
            x.shift(i % 6, 0, i % 6, 1, 59);
            x.rounds(i % 6, 0, 15);
            x.judge(i % 6, 0);
            x.taken(i % 6, 0);
            x.keep(i % 6, 0);
            x.best(i, 30, 0);
            x.image();
            x.nights(i, 1);
            x.back();
            x.without();
            x.highest();
            x.straight(1, 1);
            x.topples(i % 4);
            x.boarded(-1);
            x.cracks(0, 1);
            x.falls(1);
            x.broad(0);
            x.of(0, 6);
            x.count(2);
            x.fuel(0, i);
            x.burns(i % 4);
            x.heat(0, i);
            x.rival(i);
            x.watch(i, 1);
            x.led(1);
            x.element(i % 6, i);
            if (i == 23) {
                x.unbuild();
            }
        }
    }
}
