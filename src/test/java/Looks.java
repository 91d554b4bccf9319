import java.util.ArrayList;
import java.util.List;

/**
 * All that can be seen of an object, in parts. Each part is for an object of its own: some calls change what they show, and
 * no object is to come to more than 512 calls.
 */
final class Looks {
    static final int PARTS = 13;

    private final PalletSky x;
    private final List<Long> seen = new ArrayList<>();

    private Looks(PalletSky x) {
        this.x = x;
    }

    static List<Long> part(int part, PalletSky x) {
        Looks looks = new Looks(x);
        switch (part) {
            case 0: looks.stack(); break;
            case 1: looks.fire(); break;
            case 2: looks.nights(); break;
            case 3: looks.undone(); break;
            case 4: looks.doneAgain(); break;
            case 5: looks.bodies(); break;
            case 6: looks.tape(); break;
            default: looks.shelf(part - 7); break;
        }
        return looks.seen;
    }

    private void see(long answer) {
        seen.add(answer);
    }

    private void place() {
        for (int what = 20; what <= 28; what++) {
            see(x.of(0, what));
        }
    }

    private void stack() {
        place();
        for (int what = 0; what <= 5; what++) {
            see(x.count(what));
        }
        for (int i = 0; i < x.count(0); i++) {
            for (int what = 0; what <= 3; what++) {
                see(x.of(i, what));
            }
            see(x.of(i, 6));
            see(x.broad(i));
        }
        for (int what = 0; what <= 3; what++) {
            see(x.topples(what));
            see(x.falls(what));
        }
        see(x.without());
        see(x.highest());
        see(x.straight(3, 0));
        // what is on the stack shows what STORE gets
        see(x.unbuild());
        place();
    }

    private void fire() {
        for (int what = 0; what <= 3; what++) {
            see(x.burns(what));
        }
        for (int i = 0; i < x.count(0); i++) {
            for (int minute = 0; minute <= 60; minute += 20) {
                see(x.fuel(i, minute));
            }
        }
        for (int i = 0; i < x.count(1); i++) {
            for (int what = 10; what <= 12; what++) {
                see(x.of(i, what));
            }
            see(x.heat(i, 3));
            see(x.cracks(i, 0));
            see(x.cracks(i, 1));
            see(x.boarded(i));
        }
        see(x.boarded(-1));
    }

    private void nights() {
        see(x.rival(99));
        for (int what = 0; what <= 1; what++) {
            see(x.led(what));
            see(x.best(7, 30 - x.of(0, 28), what));
        }
        for (int night = 0; night < 30; night++) {
            see(x.watch(night, 0));
        }
        see(x.back());
        place();
        for (int what = 0; what <= 1; what++) {
            see(x.led(what));
            see(x.best(7, 30 - x.of(0, 28), what));
        }
        for (int night = 0; night < 30; night++) {
            see(x.watch(night, 0));
        }
    }

    private void values() {
        see(x.of(0, 0));
        see(x.of(0, 12));
        see(x.of(0, 20));
        see(x.of(0, 22));
    }

    private void undone() {
        values();
        for (int i = 0; i <= 40; i++) {
            see(x.undo());
            values();
        }
    }

    private void doneAgain() {
        for (int i = 0; i <= 40; i++) {
            see(x.redo());
            values();
        }
        // so that a ROUND that is lost may be there again
        for (int i = 0; i < 3; i++) {
            see(x.build(10, 44));
        }
        for (int i = 0; i < 10; i++) {
            see(x.redo());
            values();
        }
    }

    private void bodies() {
        see(x.count(6));
        for (int i = 0; i <= 24; i++) {
            see(x.trace(i));
        }
        // what stands(5) and tells(5) give tells KIND and number
        for (int i = 0; i <= 50; i++) {
            see(x.act(i, 0, 5));
            see(x.act(i, 3, 5));
        }
    }

    private void shelf(int shelf) {
        for (int i = 0; i <= 60; i++) {
            see(x.element(shelf, i));
        }
        for (int k = 0; k < 8; k++) {
            see(x.taken(shelf, k));
        }
        // the sort, by the lowest bits that are kept
        see(x.put(shelf, 0, 0x1234567890ABCDEFL));
        see(x.element(shelf, 0));
    }

    private void tape() {
        see(x.count(3));
        see(x.fuel(0, 1));
        see(x.law());
        see(x.fuel(0, 1));
        see(x.count(3));
    }
}
