/** A stack of pallets, its fire, its nights: see README.md; the words in capitals are those of the document. */
public final class PalletSky {
    public static final int BAD = -1, NOT = -2, FULL = -3, STATE = -5, VOID = -2000000000;

    private static final int MISSING = -11, OTHER_KIND = -12, NO_PLACE = -13, BELOW_ZERO = -14;
    private static final int SLIP_X = 0, SLIP_Y = 1, DAMP = 2, WIND_X = 3, WIND_Y = 4, BOARDS = 5, LIMIT = 6, THIEVES = 7;
    private static final int SHELVES = 6, NIGHTS = 30;

    private final Tower tower = new Tower();
    private final Tower thought = new Tower();
    private final Panes panes = new Panes();
    private final Parser parser = new Parser();
    private final Fire fire = new Fire();
    private final Store store = new Store();
    private final Store kept = new Store();
    private final Store guess = new Store();
    private final Changes changes = new Changes();
    private final Bodies bodies = new Bodies();
    private final Shelf[] shelves = new Shelf[SHELVES];
    // The two take turns: one is THE LAW, into the other a new text is read, so that a FAULT leaves THE LAW as it was.
    private Program inForce = new Program();
    private Program draft = new Program();
    private boolean hasImage;
    private int windX, windY, thieves = 3;

    public PalletSky() {
        for (int i = 0; i < SHELVES; i++) {
            shelves[i] = new Shelf();
        }
    }

    // ---- rounds

    public int build(int pd, int xy) {
        if (pd < 10 || pd > 99 || xy < 0 || xy > 88) {
            return BAD;
        }
        int pallets = pd / 10, damp = pd % 10, x = xy / 10 - 4, y = xy % 10 - 4;
        if (!Tower.fits(pallets, damp, x, y)) {
            return BAD;
        }
        if (tower.size >= Tower.MOST) {
            return FULL;
        }
        if (store.dry < pallets - damp || store.damp < damp) {
            return STATE;
        }
        store.dry -= pallets - damp;
        store.damp -= damp;
        tower.raise(pallets, damp, x, y);
        fire.known = false;
        return tower.size - 1;
    }

    public int unbuild() {
        int top = tower.size - 1;
        if (top < 0) {
            return STATE;
        }
        store.dry = Math.min(Store.MOST, store.dry + tower.pallets[top] - tower.damp[top]);
        store.damp = Math.min(Store.MOST, store.damp + tower.damp[top]);
        tower.lower();
        fire.known = false;
        return tower.size;
    }

    public int rounds(int shelf, int i, int n) {
        if (!isShelf(shelf) || n < 1 || n > 15) {
            return BAD;
        }
        Shelf from = shelves[shelf];
        if (from.sort == Shelf.EMPTY) {
            return 0;
        }
        if (from.sort != Shelf.BYTES) {
            return OTHER_KIND;
        }
        fire.known = false;
        int came = 0;
        for (int at = i; came < n && from.hasPlaces(at, 4) && tower.size < Tower.MOST; at += 4) {
            int pallets = (int) from.elements[at], damp = (int) from.elements[at + 1];
            int x = (int) from.elements[at + 2], y = (int) from.elements[at + 3];
            if (!Tower.fits(pallets, damp, x, y)) {
                break;
            }
            tower.raise(pallets, damp, x, y);
            came++;
        }
        return came;
    }

    public int pane(int fu) {
        if (fu < 100 || fu > 9999 || fu % 100 >= Tower.MOST) {
            return BAD;
        }
        if (panes.size >= Panes.MOST) {
            return FULL;
        }
        panes.add(fu / 100, fu % 100);
        return panes.size - 1;
    }

    public int mend(int number, int what, int v) {
        if (!isThere(number, what) || !isFit(number, what, v)) {
            return VOID;
        }
        int was = told(number, what);
        if (was != v) {
            lay(number, what, v);
            changes.add(number, what, was, v);
        }
        return was;
    }

    public int of(int number, int what) {
        if (what >= 0 && what <= 6) {
            return tower.has(number) ? ofRound(number, what) : VOID;
        }
        if (what >= 10 && what <= 12) {
            return panes.has(number) ? ofPane(number, what) : VOID;
        }
        return number == 0 ? ofPlace(what) : VOID;
    }

    private int ofRound(int number, int what) {
        switch (what) {
            case 0: return tower.slip[0][number];
            case 1: return tower.slip[1][number];
            case 2: return tower.damp[number];
            case 3: return tower.pallets[number];
            case 4: return tower.middle[0][number];
            case 5: return tower.middle[1][number];
            default: return tower.bears(number, windX, windY) ? 1 : 0;
        }
    }

    private int ofPane(int number, int what) {
        switch (what) {
            case 10: return panes.far[number];
            case 11: return panes.up[number];
            default: return panes.boards[number];
        }
    }

    private int ofPlace(int what) {
        switch (what) {
            case 20: return windX;
            case 21: return windY;
            case 22: return panes.limit;
            case 23: return thieves;
            case 24: return store.dry;
            case 25: return store.damp;
            case 26: return 5 * tower.size;
            case 27: return panes.mayBe();
            case 28: return store.gone;
            default: return VOID;
        }
    }

    public int feed(int letter) {
        if (letter < 0 || letter > 255) {
            return BAD;
        }
        if (parser.size >= Parser.MOST) {
            return FULL;
        }
        parser.tape[parser.size] = letter;
        parser.size++;
        return parser.size;
    }

    public int law() {
        boolean good = parser.reads(draft);
        int fault = parser.place;
        parser.size = 0;
        if (!good) {
            return -100 - fault;
        }
        Program old = inForce;
        inForce = draft;
        draft = old;
        fire.known = false;
        return 1;
    }

    // ---- what may be mended

    private boolean isThere(int number, int what) {
        switch (what) {
            case SLIP_X: case SLIP_Y: case DAMP: return tower.has(number);
            case BOARDS: return panes.has(number);
            case WIND_X: case WIND_Y: case LIMIT: case THIEVES: return number == 0;
            default: return false;
        }
    }

    /** Only for what isThere(). */
    private boolean isFit(int number, int what, int v) {
        switch (what) {
            case SLIP_X: case SLIP_Y: return v >= -4 && v <= 4;
            case DAMP: return v >= 0 && v <= tower.pallets[number];
            case WIND_X: case WIND_Y: return v >= -9 && v <= 9;
            case BOARDS: return v >= 0 && v <= Panes.MOST_BOARDS;
            case LIMIT: return v >= 1 && v <= 999;
            case THIEVES: return v >= 0 && v <= 12;
            default: return false;
        }
    }

    /** Only for what isThere(). */
    private int told(int number, int what) {
        switch (what) {
            case SLIP_X: return tower.slip[0][number];
            case SLIP_Y: return tower.slip[1][number];
            case DAMP: return tower.damp[number];
            case WIND_X: return windX;
            case WIND_Y: return windY;
            case BOARDS: return panes.boards[number];
            case LIMIT: return panes.limit;
            default: return thieves;
        }
    }

    /** Only for what isThere(). A ROUND may be another one by now, with fewer PALLETS than the DAMP that is laid. */
    private void lay(int number, int what, int v) {
        fire.known = false;
        switch (what) {
            case SLIP_X: tower.slide(number, 0, v); break;
            case SLIP_Y: tower.slide(number, 1, v); break;
            case DAMP: tower.damp[number] = Math.min(v, tower.pallets[number]); break;
            case WIND_X: windX = v; break;
            case WIND_Y: windY = v; break;
            case BOARDS: panes.boards[number] = v; break;
            case LIMIT: panes.limit = v; break;
            default: thieves = v; break;
        }
    }

    // ---- whether it stands

    public int falls(int what) {
        if (what < 0 || what > 1) {
            return BAD;
        }
        int at = tower.fallsAt(windX, windY);
        return at == NOT || what == 0 ? at : tower.whither(at, windX, windY);
    }

    public int topples(int direction) {
        if (direction < 0 || direction > 3) {
            return BAD;
        }
        int sign = direction < 2 ? 1 : -1;
        for (int w = 0; w <= 99; w++) {
            int along = sign * w;
            int at = direction % 2 == 0 ? tower.fallsAt(along, 0) : tower.fallsAt(0, along);
            if (at != NOT) {
                return w;
            }
        }
        return NOT;
    }

    public int broad(int round) {
        if (!tower.has(round)) {
            return BAD;
        }
        int strain = tower.strain(round, windX, windY);
        for (int pallets = 1; pallets <= Tower.BROADEST; pallets++) {
            if (strain <= tower.strength(round, pallets)) {
                return pallets;
            }
        }
        return NOT;
    }

    public int straight(int pallets, int what) {
        if (pallets < 1 || pallets > Tower.BROADEST || what < 0 || what > 1) {
            return BAD;
        }
        if (tower.size >= Tower.MOST) {
            return FULL;
        }
        if (tower.size == 0) {
            return STATE;
        }
        int slips = 0, least = -1;
        for (int x = -4; x <= 4; x++) {
            for (int y = -4; y <= 4; y++) {
                thought.copy(tower);
                thought.raise(pallets, 0, x, y);
                int strain = thought.strain(0, windX, windY);
                if (least < 0 || strain < least) {
                    least = strain;
                    slips = 10 * (x + 4) + y + 4;
                }
            }
        }
        return what == 0 ? slips : least;
    }

    public int without() {
        int bits = 0;
        for (int i = 0; i < tower.size; i++) {
            if (tower.pallets[i] >= 2) {
                thought.copy(tower);
                thought.pallets[i]--;
                thought.settle();
                if (thought.fallsAt(windX, windY) == NOT) {
                    bits |= 1 << i;
                }
            }
        }
        return bits;
    }

    public int highest() {
        // One that falls as it is has none more, also where some more would make it STAND again.
        if (tower.fallsAt(windX, windY) != NOT) {
            return 0;
        }
        int enough = (store.dry + store.damp) / 3;
        thought.copy(tower);
        int more = 0;
        while (more < enough && thought.size < Tower.MOST) {
            thought.raise(3, 0, 0, 0);
            if (thought.fallsAt(windX, windY) != NOT) {
                break;
            }
            more++;
        }
        return more;
    }

    // ---- a fire

    public int fuel(int round, int minute) {
        if (!tower.has(round) || !Fire.isMinute(minute)) {
            return BAD;
        }
        return burnt().leftBehind(minute, round);
    }

    public int burns(int what) {
        if (what < 0 || what > 3) {
            return BAD;
        }
        Fire now = burnt();
        switch (what) {
            case 0: return now.fallMinute;
            case 1: return now.fallRound;
            case 2: return now.fallWhither;
            default: return now.burntOut;
        }
    }

    public int heat(int pane, int minute) {
        if (!panes.has(pane) || !Fire.isMinute(minute)) {
            return BAD;
        }
        return panes.heatOf(pane, minute, burnt());
    }

    public int cracks(int pane, int what) {
        if (!panes.has(pane) || what < 0 || what > 1) {
            return BAD;
        }
        return what == 0 ? panes.crackOf(pane, burnt()) : panes.hottestOf(pane, burnt());
    }

    public int boarded(int pane) {
        if (pane != -1) {
            return panes.has(pane) ? panes.boardsFor(pane, burnt()) : BAD;
        }
        int together = 0;
        for (int i = 0; i < panes.size; i++) {
            int fewest = panes.boardsFor(i, burnt());
            if (fewest == NOT) {
                return NOT;
            }
            together += fewest;
        }
        return together;
    }

    /** THE FIRE of what is there now; it is thought through only where something has changed since. */
    private Fire burnt() {
        if (!fire.known) {
            fire.burn(tower, inForce, windX, windY);
            fire.known = true;
        }
        return fire;
    }

    // ---- nights

    public int watch(int night, int is) {
        if (night < 0 || night >= NIGHTS || is < 0 || is > 1) {
            return BAD;
        }
        int bit = 1 << night;
        store.watches = is == 1 ? store.watches | bit : store.watches & ~bit;
        return Integer.bitCount(store.watches);
    }

    public int nights(int seed, int n) {
        if (n < 1 || n > NIGHTS) {
            return BAD;
        }
        if (n > NIGHTS - store.gone) {
            return STATE;
        }
        store.pass(seed, n, thieves);
        return store.dry;
    }

    public int best(int seed, int n, int what) {
        if (n < 1 || n > NIGHTS - store.gone || what < 0 || what > 1) {
            return BAD;
        }
        int night = store.gone, most = -1;
        for (int i = store.gone; i < store.gone + n; i++) {
            guess.copy(store);
            guess.watches |= 1 << i;
            guess.pass(seed, n, thieves);
            if (guess.dry > most) {
                most = guess.dry;
                night = i;
            }
        }
        return what == 0 ? night : most;
    }

    public int rival(int seed) {
        int laid = 0, z = seed;
        for (int behind = 0; behind <= 99; behind++) {
            if (laid == tower.size) {
                return behind;
            }
            z = Store.next(z);
            if (Store.drawn(z, 12) > 4) {
                laid++;
            }
        }
        return NOT;
    }

    public int judge(int shelf, int pane) {
        if (!isShelf(shelf) || !panes.has(pane)) {
            return BAD;
        }
        Shelf seen = shelves[shelf];
        if (seen.sort == Shelf.EMPTY) {
            return MISSING;
        }
        if (seen.sort != Shelf.BYTES) {
            return OTHER_KIND;
        }
        for (int minute = 0; minute < seen.length && Fire.isMinute(minute); minute++) {
            if (seen.elements[minute] != Math.min(127, panes.heatOf(pane, minute, burnt()))) {
                return minute;
            }
        }
        return NOT;
    }

    public int led(int what) {
        if (what < 0 || what > 1) {
            return BAD;
        }
        return what == 0 ? store.stolen : store.latestThieves;
    }

    public int image() {
        kept.copy(store);
        hasImage = true;
        return store.gone;
    }

    public int back() {
        if (!hasImage) {
            return STATE;
        }
        store.copy(kept);
        return store.gone;
    }

    public int undo() {
        int i = changes.done - 1;
        if (i < 0 || !isThere(changes.number(i), changes.what(i))) {
            return STATE;
        }
        lay(changes.number(i), changes.what(i), changes.before(i));
        changes.done--;
        return changes.done;
    }

    public int redo() {
        int i = changes.done;
        if (i >= changes.all || !isThere(changes.number(i), changes.what(i))) {
            return STATE;
        }
        lay(changes.number(i), changes.what(i), changes.after(i));
        changes.done++;
        return changes.all - changes.done;
    }

    // ---- acts, shelves

    public int body(int kind) {
        if (kind < 0 || kind >= Bodies.KINDS) {
            return BAD;
        }
        if (bodies.size >= Bodies.MOST) {
            return FULL;
        }
        bodies.kinds[bodies.size] = kind;
        bodies.size++;
        return bodies.size - 1;
    }

    public int act(int body, int act, int x) {
        bodies.ran = 0;
        if (!bodies.has(body) || act < 0 || act >= Bodies.ACTS) {
            return 0;
        }
        return bodies.perform(body, act, x);
    }

    public int trace(int i) {
        if (i < 0 || i >= bodies.ran || i >= Bodies.TRACED) {
            return BAD;
        }
        return bodies.traced[i];
    }

    public int keep(int shelf, int body) {
        if (!isShelf(shelf) || body != -1 && !bodies.has(body)) {
            return BAD;
        }
        shelves[shelf].sort = body == -1 ? Shelf.EMPTY : Shelf.ROUND;
        shelves[shelf].body = body;
        return 1;
    }

    public int row(int shelf, int sort, int n) {
        if (!isShelf(shelf) || !Shelf.isRow(sort) || n > Shelf.LONGEST) {
            return BAD;
        }
        if (n < 0) {
            return BELOW_ZERO;
        }
        shelves[shelf].becomeRow(sort, n);
        return 1;
    }

    public int put(int shelf, int i, long v) {
        int refusal = refusalOf(shelf, i);
        if (refusal < 0) {
            return refusal;
        }
        Shelf on = shelves[shelf];
        on.elements[i] = Shelf.lowest(on.sort, v);
        return 1;
    }

    public long element(int shelf, int i) {
        if (refusalOf(shelf, i) < 0) {
            return Long.MIN_VALUE;
        }
        return shelves[shelf].elements[i];
    }

    public int shift(int shelf, int i, int other, int j, int n) {
        if (!isShelf(shelf) || !isShelf(other)) {
            return BAD;
        }
        Shelf from = shelves[shelf], to = shelves[other];
        if (from.sort == Shelf.EMPTY || to.sort == Shelf.EMPTY) {
            return MISSING;
        }
        if (!Shelf.isRow(from.sort) || from.sort != to.sort) {
            return OTHER_KIND;
        }
        if (!from.hasPlaces(i, n) || !to.hasPlaces(j, n)) {
            return NO_PLACE;
        }
        System.arraycopy(from.elements, i, to.elements, j, n);
        return n;
    }

    public int taken(int shelf, int k) {
        if (!isShelf(shelf) || k < 0 || k >= Bodies.KINDS) {
            return BAD;
        }
        Shelf from = shelves[shelf];
        if (from.sort == Shelf.EMPTY) {
            return MISSING;
        }
        if (from.sort != Shelf.ROUND || !bodies.has(from.body)) {
            return OTHER_KIND;
        }
        int kind = bodies.kinds[from.body];
        return Bodies.isUnder(kind, k) ? kind : OTHER_KIND;
    }

    public int count(int what) {
        switch (what) {
            case 0: return tower.size;
            case 1: return panes.size;
            case 2: return tower.allPallets();
            case 3: return parser.size;
            case 4: return changes.done;
            case 5: return bodies.size;
            case 6: return bodies.ran;
            default: return BAD;
        }
    }

    private static boolean isShelf(int shelf) {
        return shelf >= 0 && shelf < SHELVES;
    }

    /** Why element i of the ROW on a SHELF can't be had; 0: it can. */
    private int refusalOf(int shelf, int i) {
        if (!isShelf(shelf)) {
            return BAD;
        }
        Shelf on = shelves[shelf];
        if (on.sort == Shelf.EMPTY) {
            return MISSING;
        }
        if (!Shelf.isRow(on.sort)) {
            return OTHER_KIND;
        }
        return on.hasPlaces(i, 1) ? 0 : NO_PLACE;
    }

    /** A stack of ROUNDS: the one that is there, one in thought, or one that burns. */
    static final class Tower {
        static final int MOST = 24, BROADEST = 9;

        final int[] pallets = new int[MOST];
        final int[] damp = new int[MOST];
        // Rows by axis: x (0) and y (1).
        final int[][] slip = new int[2][MOST];
        final int[][] middle = new int[2][MOST];
        // Of all ROUNDS above one: their PALLETS, and the sums of PALLETS times MIDDLE by axis.
        final int[] weight = new int[MOST];
        final int[][] moment = new int[2][MOST];
        int size;

        static boolean fits(int pallets, int damp, int x, int y) {
            return pallets >= 1 && pallets <= BROADEST && damp >= 0 && damp <= pallets
                && x >= -4 && x <= 4 && y >= -4 && y <= 4;
        }

        boolean has(int round) {
            return round >= 0 && round < size;
        }

        void raise(int count, int damps, int x, int y) {
            if (size >= MOST) {
                return;
            }
            pallets[size] = count;
            damp[size] = damps;
            slip[0][size] = x;
            slip[1][size] = y;
            size++;
            settle();
        }

        void lower() {
            if (size > 0) {
                size--;
                settle();
            }
        }

        void slide(int round, int axis, int by) {
            slip[axis][round] = by;
            settle();
        }

        void copy(Tower other) {
            size = other.size;
            System.arraycopy(other.pallets, 0, pallets, 0, size);
            System.arraycopy(other.damp, 0, damp, 0, size);
            System.arraycopy(other.slip[0], 0, slip[0], 0, size);
            System.arraycopy(other.slip[1], 0, slip[1], 0, size);
            settle();
        }

        /** To be called behind each change of PALLETS or SLIPS: works out anew what hangs on them. */
        void settle() {
            int x = 0, y = 0;
            for (int i = 0; i < size; i++) {
                x += slip[0][i];
                y += slip[1][i];
                middle[0][i] = x;
                middle[1][i] = y;
            }
            int sum = 0, sumX = 0, sumY = 0;
            for (int i = size - 1; i >= 0; i--) {
                weight[i] = sum;
                moment[0][i] = sumX;
                moment[1][i] = sumY;
                sum += pallets[i];
                sumX += pallets[i] * middle[0][i];
                sumY += pallets[i] * middle[1][i];
            }
        }

        /** PUSH on a ROUND along an axis, with its sign. */
        int push(int round, int axis, int wind) {
            int turn = moment[axis][round] - weight[round] * middle[axis][round];
            return 6 * turn + wind * (size - 1 - round);
        }

        /** The greater PUSH on a ROUND, of x and y. */
        int strain(int round, int windX, int windY) {
            return Math.max(Math.abs(push(round, 0, windX)), Math.abs(push(round, 1, windY)));
        }

        /** The greatest PUSH that a ROUND of so many PALLETS bears in the place of this one. */
        int strength(int round, int count) {
            return 3 * count * weight[round];
        }

        boolean bears(int round, int windX, int windY) {
            return strain(round, windX, windY) <= strength(round, pallets[round]);
        }

        int fallsAt(int windX, int windY) {
            for (int i = 0; i < size; i++) {
                if (!bears(i, windX, windY)) {
                    return i;
                }
            }
            return NOT;
        }

        int whither(int round, int windX, int windY) {
            int x = push(round, 0, windX), y = push(round, 1, windY);
            if (Math.abs(x) >= Math.abs(y)) {
                return x < 0 ? 2 : 0;
            }
            return y < 0 ? 3 : 1;
        }

        int allPallets() {
            int sum = 0;
            for (int i = 0; i < size; i++) {
                sum += pallets[i];
            }
            return sum;
        }
    }

    /** THE LAW as its parts are worked out: what an operator takes stands ahead of it. */
    static final class Program {
        // Operators go by their own signs; these three have none of their own.
        static final int NUMBER = 'n', NAME = 'v', NEGATE = '~';
        // A byte of THE TAPE gives one part at most, and the end of the last LINE one more.
        static final int MOST = Parser.MOST + 1;

        final int[] parts = new int[MOST];
        final int[] values = new int[MOST];
        final int[] stack = new int[MOST];
        int size;

        void add(int part, int value) {
            if (size < MOST) {
                parts[size] = part;
                values[size] = value;
                size++;
            }
        }

        /** What the first LINE that counts gives; names: f, p, d, k, m, w. */
        int worth(int[] names) {
            int top = 0;
            boolean counts = true;
            for (int i = 0; i < size; i++) {
                int part = parts[i];
                if (part == NUMBER || part == NAME) {
                    if (top >= MOST) {
                        return 0;
                    }
                    stack[top] = part == NUMBER ? values[i] : valueOf(values[i], names);
                    top++;
                } else if (top < 1) {
                    return 0;
                } else if (part == '?') {
                    counts = stack[--top] != 0;
                } else if (part == ';') {
                    if (counts) {
                        return stack[top - 1];
                    }
                    top--;
                    counts = true;
                } else if (part == '!') {
                    stack[top - 1] = stack[top - 1] == 0 ? 1 : 0;
                } else if (part == NEGATE) {
                    stack[top - 1] = -stack[top - 1];
                } else if (top < 2) {
                    return 0;
                } else {
                    top--;
                    stack[top - 1] = joined(part, stack[top - 1], stack[top]);
                }
            }
            return 0;
        }

        private static int valueOf(int name, int[] names) {
            return name >= 0 && name < names.length ? names[name] : 0;
        }

        private static int joined(int operator, int a, int b) {
            switch (operator) {
                case '|': return a != 0 || b != 0 ? 1 : 0;
                case '&': return a != 0 && b != 0 ? 1 : 0;
                case '<': return a < b ? 1 : 0;
                case '=': return a == b ? 1 : 0;
                case '>': return a > b ? 1 : 0;
                case '+': return a + b;
                case '-': return a - b;
                case '*': return a * b;
                case '/': return b == 0 ? 0 : a / b;
                case '%': return b == 0 ? 0 : a % b;
                default: return 0;
            }
        }
    }

    /** THE TAPE, and how its TEXT is read. Only bytes that fit are passed, so that place is the FAULT where it fails. */
    static final class Parser {
        static final int MOST = 120, DEEPEST = 6, DIGITS = 4;
        // How tightly an operator binds: E, A, B, S, P of the document.
        static final int EITHER = 0, BOTH = 1, COMPARED = 2, SUM = 3, PRODUCT = 4, OPERAND = 5;

        final int[] tape = new int[MOST];
        int size;
        int place;
        private Program target;

        boolean reads(Program program) {
            target = program;
            target.size = 0;
            place = 0;
            boolean good = line();
            for (int i = 0; i < MOST && good && ahead() == ';'; i++) {
                place++;
                good = line();
            }
            return good && place == size;
        }

        private boolean line() {
            if (!chain(EITHER, 0)) {
                return false;
            }
            if (ahead() == '?') {
                place++;
                target.add('?', 0);
                if (!chain(EITHER, 0)) {
                    return false;
                }
            }
            target.add(';', 0);
            return true;
        }

        /** Operands and the operators of one level, or of those that bind more tightly; open: how many of ( ! - are. */
        private boolean chain(int level, int open) {
            if (level >= OPERAND) {
                return operand(open);
            }
            if (!chain(level + 1, open)) {
                return false;
            }
            // Comparisons are not chained.
            int most = level == COMPARED ? 1 : MOST;
            for (int i = 0; i < most && levelOf(ahead()) == level; i++) {
                int operator = ahead();
                place++;
                if (!chain(level + 1, open)) {
                    return false;
                }
                target.add(operator, 0);
            }
            return true;
        }

        private boolean operand(int open) {
            int sign = ahead();
            if (isDigit(sign)) {
                number();
                return true;
            }
            int name = nameOf(sign);
            if (name != NOT) {
                place++;
                target.add(Program.NAME, name);
                return true;
            }
            if (open >= DEEPEST || sign != '(' && sign != '!' && sign != '-') {
                return false;
            }
            place++;
            if (sign == '(') {
                if (!chain(EITHER, open + 1) || ahead() != ')') {
                    return false;
                }
                place++;
                return true;
            }
            if (!operand(open + 1)) {
                return false;
            }
            target.add(sign == '!' ? '!' : Program.NEGATE, 0);
            return true;
        }

        private void number() {
            int value = 0;
            for (int i = 0; i < DIGITS && isDigit(ahead()); i++) {
                value = 10 * value + ahead() - '0';
                place++;
            }
            target.add(Program.NUMBER, value);
        }

        /** The byte that is next; -1: THE TAPE is at its end. */
        private int ahead() {
            return place < size && place < MOST ? tape[place] : -1;
        }

        private static boolean isDigit(int sign) {
            return sign >= '0' && sign <= '9';
        }

        private static int nameOf(int sign) {
            switch (sign) {
                case 'f': return Fire.FUEL;
                case 'p': return Fire.PALLETS;
                case 'd': return Fire.DAMP;
                case 'k': return Fire.ROUND;
                case 'm': return Fire.MINUTE;
                case 'w': return Fire.WIND;
                default: return NOT;
            }
        }

        private static int levelOf(int sign) {
            switch (sign) {
                case '|': return EITHER;
                case '&': return BOTH;
                case '<': case '=': case '>': return COMPARED;
                case '+': case '-': return SUM;
                case '*': case '/': case '%': return PRODUCT;
                default: return NOT;
            }
        }
    }

    /** A FIRE in thought, all its minutes. */
    static final class Fire {
        static final int MINUTES = 61;
        // Places of THE LAW's names.
        static final int FUEL = 0, PALLETS = 1, DAMP = 2, ROUND = 3, MINUTE = 4, WIND = 5;

        private final int[] first = new int[Tower.MOST];
        private final int[] lit = new int[Tower.MOST];
        // FUEL left, minute by minute, of all ROUNDS.
        private final int[] left = new int[MINUTES * Tower.MOST];
        private final int[] names = new int[6];
        private final Tower charred = new Tower();
        private int size;
        boolean known;
        int fallMinute, fallRound, fallWhither, burntOut;

        static boolean isMinute(int minute) {
            return minute >= 0 && minute < MINUTES;
        }

        void burn(Tower tower, Program law, int windX, int windY) {
            light(tower);
            names[WIND] = Math.abs(windX) + Math.abs(windY);
            fallMinute = fallRound = fallWhither = burntOut = NOT;
            for (int minute = 0; minute < MINUTES; minute++) {
                boolean gone = smoulder(tower, law, minute);
                if (gone && burntOut == NOT) {
                    burntOut = minute;
                }
                int at = fallMinute == NOT ? charred.fallsAt(windX, windY) : NOT;
                if (at != NOT) {
                    fallMinute = minute;
                    fallRound = at;
                    fallWhither = charred.whither(at, windX, windY);
                }
            }
        }

        /** One minute; whether all FUEL is gone behind it. */
        private boolean smoulder(Tower tower, Program law, int minute) {
            boolean gone = true;
            for (int i = 0; i < size; i++) {
                int now = leftBehind(minute - 1, i);
                int still = lit[i] > minute ? now : now - loss(tower, law, i, minute, now);
                left[minute * Tower.MOST + i] = still;
                charred.pallets[i] = counted(tower.pallets[i], still, first[i]);
                gone = gone && still == 0;
            }
            charred.settle();
            return gone;
        }

        private void light(Tower tower) {
            charred.copy(tower);
            size = tower.size;
            int since = 0;
            for (int i = 0; i < size; i++) {
                int dry = tower.pallets[i] - tower.damp[i];
                first[i] = 12 * dry + 8 * tower.damp[i];
                if (i > 0) {
                    since += tower.damp[i] > dry ? 4 : 2;
                }
                lit[i] = since;
            }
        }

        private int loss(Tower tower, Program law, int round, int minute, int now) {
            int amount;
            if (law.size == 0) {
                amount = (tower.pallets[round] + names[WIND]) / 2 + 1;
            } else {
                names[FUEL] = now;
                names[PALLETS] = tower.pallets[round];
                names[DAMP] = tower.damp[round];
                names[ROUND] = round;
                names[MINUTE] = minute;
                amount = law.worth(names);
            }
            return Math.max(0, Math.min(now, amount));
        }

        private static int counted(int pallets, int still, int fuel) {
            if (still == 0) {
                return 0;
            }
            return 2 * still <= fuel ? Math.max(1, pallets / 2) : pallets;
        }

        /** Only for ROUNDS that are there; ahead of minute 0: all their FUEL. */
        int leftBehind(int minute, int round) {
            return isMinute(minute) ? left[minute * Tower.MOST + round] : first[round];
        }

        /** HEAT without BOARDS. */
        int glow(int far, int up, int minute) {
            int sum = 0;
            for (int i = 0; i < size; i++) {
                int away = far + Math.abs(i - up);
                if (away > 0) {
                    sum += (leftBehind(minute - 1, i) - leftBehind(minute, i)) * 100 / away;
                }
            }
            return sum;
        }
    }

    /** The PANES round about. */
    static final class Panes {
        static final int MOST = 8, MOST_BOARDS = 9;

        final int[] far = new int[MOST];
        final int[] up = new int[MOST];
        final int[] boards = new int[MOST];
        int size;
        int limit = 200;

        boolean has(int pane) {
            return pane >= 0 && pane < size;
        }

        void add(int away, int high) {
            if (size < MOST) {
                far[size] = away;
                up[size] = high;
                size++;
            }
        }

        int mayBe() {
            if (size == 0) {
                return 120;
            }
            int nearest = far[0];
            for (int i = 1; i < size; i++) {
                nearest = Math.min(nearest, far[i]);
            }
            return 3 * nearest;
        }

        int heatOf(int pane, int minute, Fire fire) {
            return behind(boards[pane], fire.glow(far[pane], up[pane], minute));
        }

        private static int behind(int count, int glow) {
            return Math.max(0, glow - 20 * count);
        }

        int crackOf(int pane, Fire fire) {
            int end = lastOf(fire);
            for (int minute = 0; minute <= end; minute++) {
                if (heatOf(pane, minute, fire) >= limit) {
                    return minute;
                }
            }
            return NOT;
        }

        int hottestOf(int pane, Fire fire) {
            return behind(boards[pane], brightest(pane, Fire.MINUTES - 1, fire));
        }

        int boardsFor(int pane, Fire fire) {
            int glow = brightest(pane, lastOf(fire), fire);
            for (int count = 0; count <= MOST_BOARDS; count++) {
                if (behind(count, glow) < limit) {
                    return count;
                }
            }
            return NOT;
        }

        /** The last minute in which a PANE may crack. */
        private static int lastOf(Fire fire) {
            return fire.fallMinute == NOT ? Fire.MINUTES - 1 : fire.fallMinute;
        }

        private int brightest(int pane, int end, Fire fire) {
            int most = 0;
            for (int minute = 0; minute <= end; minute++) {
                most = Math.max(most, fire.glow(far[pane], up[pane], minute));
            }
            return most;
        }
    }

    /** What AN IMAGE keeps: STORE, NIGHTS gone, thefts, WATCHES. */
    static final class Store {
        static final int MOST = 99;

        int dry = 20, damp = 10;
        int gone, watches;
        int stolen, latestThieves = NOT;

        static int next(int z) {
            return z * 1103515245 + 12345;
        }

        /** below: above 0. */
        static int drawn(int z, int below) {
            return below > 0 ? (z >>> 8) % below : 0;
        }

        void copy(Store other) {
            dry = other.dry;
            damp = other.damp;
            gone = other.gone;
            watches = other.watches;
            stolen = other.stolen;
            latestThieves = other.latestThieves;
        }

        void pass(int seed, int n, int thieves) {
            int z = seed;
            for (int i = 0; i < n; i++) {
                z = next(z);
                dry = Math.min(MOST, dry + drawn(z, 12));
                z = next(z);
                damp = Math.min(MOST, damp + drawn(z, 6));
                z = next(z);
                boolean watched = (watches >> gone & 1) == 1;
                if (drawn(z, 12) < thieves && !watched) {
                    int half = dry / 2;
                    dry -= half;
                    stolen += half;
                    latestThieves = gone;
                }
                gone++;
            }
        }
    }

    /** CHANGES, the oldest first: those that are done, then those that may be DONE AGAIN. */
    static final class Changes {
        static final int MOST = 40, WIDE = 4;

        private final int[] entries = new int[MOST * WIDE];
        int done, all;

        void add(int number, int what, int before, int after) {
            if (done >= MOST) {
                System.arraycopy(entries, WIDE, entries, 0, (MOST - 1) * WIDE);
                done = MOST - 1;
            }
            int at = done * WIDE;
            entries[at] = number;
            entries[at + 1] = what;
            entries[at + 2] = before;
            entries[at + 3] = after;
            done++;
            all = done;
        }

        /** This and the next three only for 0 .. all - 1. */
        int number(int i) {
            return entries[i * WIDE];
        }

        int what(int i) {
            return entries[i * WIDE + 1];
        }

        int before(int i) {
            return entries[i * WIDE + 2];
        }

        int after(int i) {
            return entries[i * WIDE + 3];
        }
    }

    /** BODIES of KINDS, and what ran in their latest act. */
    static final class Bodies {
        static final int MOST = 50, KINDS = 8, ACTS = 4, TRACED = 24, DEEPEST = 40;
        static final int STANDS = 0, LEANS = 1, BURNS = 2, TELLS = 3;
        private static final int[] ABOVE = {-1, 0, 0, 2, 1, 3, 0, 4};
        // By KIND, then ACT: the number of the KIND's own body; 0: it has none. ROUND has those of its interfaces, too.
        private static final int[] OWN = {
            1, 10, 11, 2,
            20, 0, 0, 0,
            0, 30, 0, 0,
            0, 41, 40, 0,
            0, 0, 50, 0,
            0, 0, 0, 60,
            70, 0, 0, 0,
            0, 80, 0, 81};

        final int[] kinds = new int[MOST];
        final int[] traced = new int[TRACED];
        int size;
        int ran;
        private int self, selfKind;

        boolean has(int body) {
            return body >= 0 && body < size;
        }

        static boolean isUnder(int kind, int above) {
            int at = kind;
            for (int i = 0; i < KINDS && at >= 0 && at < KINDS; i++) {
                if (at == above) {
                    return true;
                }
                at = ABOVE[at];
            }
            return false;
        }

        /** Only for a body and an ACT that are there. */
        int perform(int body, int act, int x) {
            self = body;
            selfKind = kinds[body];
            return run(selfKind, act, x, 0);
        }

        /** The ACT by the first body from a KIND upward. */
        private int run(int from, int act, int x, int depth) {
            int kind = from;
            for (int i = 0; i < KINDS && kind > 0 && OWN[kind * ACTS + act] == 0; i++) {
                kind = ABOVE[kind];
            }
            if (kind < 0 || depth > DEEPEST) {
                return 0;
            }
            int number = OWN[kind * ACTS + act];
            if (ran < TRACED) {
                traced[ran] = number;
            }
            ran++;
            return result(number, ABOVE[kind], x, depth + 1);
        }

        /** What the body of a number gives; above: the KIND at which its super begins. */
        private int result(int number, int above, int x, int depth) {
            switch (number) {
                case 1: return x + self;
                case 2: return run(selfKind, LEANS, x, depth) - run(selfKind, BURNS, 1, depth);
                case 10: return run(selfKind, STANDS, x, depth) * 2;
                case 11: return x ^ self;
                case 20: return run(above, STANDS, x, depth) + 3;
                case 30: return -run(above, LEANS, x, depth);
                case 40: return run(above, BURNS, x, depth) * 3;
                case 41: return run(above, LEANS, x + 1, depth);
                case 50: return run(above, BURNS, x, depth) - run(selfKind, STANDS, 2, depth);
                case 60: return run(above, TELLS, x, depth) ^ 5;
                case 70: return run(above, STANDS, x, depth) * 2;
                case 80: return run(above, LEANS, x, depth) + run(selfKind, BURNS, 2, depth);
                case 81: return run(above, TELLS, x, depth) - 1;
                default: return 0;
            }
        }
    }

    /** A SHELF. */
    static final class Shelf {
        static final int LONGEST = 60;
        // What it holds: these two, or a ROW of a sort 0 .. 4.
        static final int EMPTY = -2, ROUND = -1, BYTES = 0, SHORTS = 1, INTS = 2, LONGS = 3, BOOLEANS = 4;

        final long[] elements = new long[LONGEST];
        int sort = EMPTY;
        int body = -1;
        int length;

        static boolean isRow(int sort) {
            return sort >= BYTES && sort <= BOOLEANS;
        }

        void becomeRow(int of, int n) {
            sort = of;
            length = n;
            for (int i = 0; i < LONGEST; i++) {
                elements[i] = 0;
            }
        }

        /** Whether n places from i on are there. */
        boolean hasPlaces(int i, int n) {
            return i >= 0 && n >= 0 && n <= length && i <= length - n;
        }

        static long lowest(int sort, long v) {
            switch (sort) {
                case BYTES: return (byte) v;
                case SHORTS: return (short) v;
                case INTS: return (int) v;
                case BOOLEANS: return v != 0 ? 1 : 0;
                default: return v;
            }
        }
    }
}
