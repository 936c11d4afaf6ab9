/** Frost on the panes of a window; ../shared/DOC.md tells what each method promises. */
public final class PaneFrost {
    public static final int NONE = -1;

    private static final int UP = 0;
    private static final int RIGHT = 1;
    private static final int DOWN = 2;
    private static final int LEFT = 3;

    private static final int ICY = 1;
    private static final int JOINED = 2;

    private static final int FREEZING = 0;
    private static final int ODD = 1;

    private static final int LEAST_SIDE = 2;
    private static final int MOST_SIDE = 8;
    private static final int FIRST_SIDE = 4;
    private static final int MOST_CELLS = 64;
    private static final int MOST_STEPS = 9;
    private static final int MOST_NIGHTS = 60;
    private static final int MOST_COMING = 200;
    private static final int MOST_AGAIN = 300;
    private static final int MOST_FREEZING = 100;
    private static final int MOST_KEEPING = 20;
    private static final int MOST_TURNS = 60;
    private static final int MOST_SIGN = 255;
    private static final int TEXT_LIMIT = 120;
    private static final int UNDO_LIMIT = 14;

    private final Text text;
    private final Window window;
    private final Window trial;
    private final Past past;
    private final Slot firstSlot;
    private final Slot secondSlot;
    private final Equations equations;
    private final long[] looks;

    public PaneFrost() {
        text = new Text();
        window = new Window();
        trial = new Window();
        past = new Past();
        firstSlot = new Slot();
        secondSlot = new Slot();
        equations = new Equations();
        looks = new long[MOST_AGAIN + 1];
    }

    // ---- text

    public int append(int c) throws IllegalArgumentException, IllegalStateException {
        needRange(c, 0, MOST_SIGN);
        if (text.isFull()) {
            throw new IllegalStateException("the text is full");
        }
        return text.add((char) c);
    }

    public int clearText() {
        return text.empty();
    }

    public int errorPosition() {
        return text.firstError();
    }

    public int load() throws IllegalStateException {
        if (text.firstError() != NONE) {
            throw new IllegalStateException("the text is not a window");
        }
        past.forget();
        firstSlot.empty();
        secondSlot.empty();
        text.readWindow();
        window.renew(text.first, text.second);
        int leftOut = 0;
        for (int i = 0; i < TEXT_LIMIT && text.readCommand(); i++) {
            if (obey(text.letter, text.first, text.second) == NONE) {
                leftOut++;
            }
        }
        return leftOut;
    }

    private int obey(char letter, int first, int second) {
        switch (letter) {
            case 'f':
                return window.turn(first);
            case 's':
                return window.scrape(first, second);
            case 'b':
                return window.putKind(first, second);
            case 'r':
                return window.putRule(first);
            case 't':
                return window.thaw(first, second);
            case 'n':
                return window.pass(first);
            default:
                return NONE;
        }
    }

    // ---- what there is

    public int about(int what) throws IllegalArgumentException {
        switch (what) {
            case 0:
                return window.rows;
            case 1:
                return window.cells;
            case 2:
                return Long.bitCount(window.frozen);
            case 3:
                return window.scratches();
            case 4:
                return window.rule;
            case 5:
                return window.nights;
            case 6:
                return window.patches();
            case 7:
                return window.largestPatch();
            default:
                throw new IllegalArgumentException("what is not 0 to 7");
        }
    }

    public long frozen() {
        return window.frozen;
    }

    public int cell(int k, int what) throws IndexOutOfBoundsException, IllegalArgumentException {
        needCell(k);
        switch (what) {
            case 0:
                return window.isFrozen(k) ? 1 : 0;
            case 1:
                return window.cold(k);
            case 2:
                return Long.bitCount(window.patchAt(k));
            case 3:
                return window.scratchesAt(k);
            default:
                throw new IllegalArgumentException("what is not 0 to 3");
        }
    }

    public int neighbour(int k, int d) throws IndexOutOfBoundsException, IllegalArgumentException {
        needCell(k);
        needRange(d, UP, LEFT);
        return window.beside(k, d);
    }

    public int side(int side) throws IllegalArgumentException {
        needRange(side, UP, LEFT);
        return window.kind(side);
    }

    // ---- actions

    public int size(int rows, int cells) throws IllegalArgumentException {
        needRange(rows, LEAST_SIDE, MOST_SIDE);
        needRange(cells, LEAST_SIDE, MOST_SIDE);
        past.remember(window);
        window.replace(rows, cells);
        return window.count();
    }

    public int flip(int k) throws IndexOutOfBoundsException {
        needCell(k);
        past.remember(window);
        return window.turn(k);
    }

    public int scratch(int k, int d) throws IndexOutOfBoundsException, IllegalArgumentException, IllegalStateException {
        needCell(k);
        needRange(d, UP, LEFT);
        if (window.beside(k, d) == NONE) {
            throw new IllegalStateException("no cell is the neighbour there");
        }
        past.remember(window);
        return window.scrape(k, d);
    }

    public int border(int side, int kind) throws IllegalArgumentException {
        needRange(side, UP, LEFT);
        needRange(kind, 0, JOINED);
        past.remember(window);
        return window.putKind(side, kind);
    }

    public int rule(int rule) throws IllegalArgumentException {
        needRange(rule, 0, 2);
        past.remember(window);
        return window.putRule(rule);
    }

    public int breathe(int k, int steps) throws IndexOutOfBoundsException, IllegalArgumentException {
        needCell(k);
        needRange(steps, 0, MOST_STEPS);
        past.remember(window);
        return window.thaw(k, steps);
    }

    public int nights(int n) throws IllegalArgumentException {
        needRange(n, 1, MOST_NIGHTS);
        past.remember(window);
        return window.pass(n);
    }

    public int undo() throws IllegalStateException {
        if (past.count == 0) {
            throw new IllegalStateException("no state is remembered");
        }
        past.takeBack(window);
        return past.count;
    }

    // ---- what would be; these and all following methods up to the save slots change nothing

    public long coming(int n) throws IllegalArgumentException {
        needRange(n, 1, MOST_COMING);
        long set = window.frozen;
        for (int i = 0; i < n; i++) {
            set = window.after(set);
        }
        return set;
    }

    public int again(int what) throws IllegalArgumentException {
        needRange(what, 0, 1);
        lookAhead();
        int period = period();
        if (period == NONE || what == 1) {
            return period;
        }
        return firstOfPeriod(period);
    }

    public int befores() throws IllegalStateException {
        needLinearRule();
        equations.solve(window);
        return equations.isSolved() ? equations.free() : NONE;
    }

    public long before() throws IllegalStateException {
        needLinearRule();
        equations.solve(window);
        return equations.isSolved() ? equations.leastSolution() : 0L;
    }

    public int freezesIn(int k) throws IndexOutOfBoundsException {
        needCell(k);
        long set = window.frozen;
        for (int i = 0; i <= MOST_FREEZING; i++) {
            if (holds(set, k)) {
                return i;
            }
            set = window.after(set);
        }
        return NONE;
    }

    public int keeps(int k, int n) throws IndexOutOfBoundsException, IllegalArgumentException {
        needCell(k);
        needRange(n, 1, MOST_KEEPING);
        trial.copy(window);
        int count = window.count();
        for (int from = 0; from < count; from++) {
            for (int d = UP; d <= LEFT; d++) {
                if (canBeTried(from, d) && wouldKeep(from, d, k, n)) {
                    return 4 * from + d;
                }
            }
        }
        return NONE;
    }

    private void lookAhead() {
        long set = window.frozen;
        for (int i = 0; i < looks.length; i++) {
            looks[i] = set;
            set = window.after(set);
        }
    }

    // What came once more goes on as before, so the last look is a look for the second time
    // if and only if any look is, and its nearest equal tells the period.
    private int period() {
        long last = look(MOST_AGAIN);
        for (int length = 1; length <= MOST_AGAIN; length++) {
            if (look(MOST_AGAIN - length) == last) {
                return length;
            }
        }
        return NONE;
    }

    private int firstOfPeriod(int period) {
        for (int i = 0; i + period <= MOST_AGAIN; i++) {
            if (look(i) == look(i + period)) {
                return i;
            }
        }
        return NONE;
    }

    private long look(int i) {
        return i >= 0 && i < looks.length ? looks[i] : 0L;
    }

    // A scratch has two such numbers; the one at its higher cell is never the least.
    private boolean canBeTried(int from, int d) {
        return window.beside(from, d) > from && !window.isScratched(from, d);
    }

    private boolean wouldKeep(int from, int d, int k, int n) {
        trial.scrape(from, d);
        boolean kept = trial.staysClear(k, n);
        trial.scrape(from, d);
        return kept;
    }

    // ---- scripts, simulations

    public int runScript(int n, long script) throws IllegalArgumentException {
        needRange(n, 1, 3);
        if (script < 0L || withoutLowest(script, n) != 0L) {
            throw new IllegalArgumentException("script does not fit");
        }
        trial.copy(window);
        for (int i = 0; i < n; i++) {
            if (!succeeds((int) (withoutLowest(script, n - 1 - i) % 10000L))) {
                return i;
            }
        }
        return NONE;
    }

    private static long withoutLowest(long script, int groups) {
        long rest = script;
        for (int i = 0; i < groups; i++) {
            rest = rest / 10000L;
        }
        return rest;
    }

    private boolean succeeds(int group) {
        int middle = group / 10 % 100;
        int last = group % 10;
        switch (group / 1000) {
            case 1:
                return last == 0 && trial.turn(middle) != NONE;
            case 2:
                return trial.scrape(middle, last) != NONE;
            case 3:
                return middle < 10 && trial.putKind(middle, last) != NONE;
            case 4:
                return middle == 0 && trial.putRule(last) != NONE;
            case 5:
                return middle < 10 && trial.pass(group % 100) != NONE;
            case 6:
                return trial.thaw(middle, last) != NONE;
            case 7:
                return trial.hasCell(middle) && last == (trial.isFrozen(middle) ? 1 : 0);
            case 8:
                return trial.hasCell(middle) && last == trial.cold(middle);
            case 9:
                return middle < 10 && Long.bitCount(trial.frozen) >= group % 100;
            default:
                return false;
        }
    }

    public int simulate(long seed, int m) throws IllegalArgumentException {
        needRange(m, 1, MOST_TURNS);
        trial.copy(window);
        long x = seed;
        for (int i = 0; i < m; i++) {
            x = x * 6364136223846793005L + 1442695040888963407L;
            takeTurn((int) (x >>> 33));
        }
        return 100 * Long.bitCount(trial.frozen) + trial.patches();
    }

    private void takeTurn(int r) {
        int q = r / 8;
        switch (r % 8) {
            case 0:
            case 1:
            case 2:
                trial.turn(q % 64);
                break;
            case 3:
                trial.scrape(q % 64, q / 64 % 4);
                break;
            case 4:
                if (q / 16 % 3 == 0) {
                    trial.putKind(q % 4, q / 4 % 3);
                } else {
                    trial.thaw(q / 64 % 64, q % 4);
                }
                break;
            case 5:
                trial.putRule(q % 3);
                break;
            default:
                trial.pass(1 + q % 6);
                break;
        }
    }

    // ---- save slots

    public int save(int slot) throws IndexOutOfBoundsException {
        needSlot(slot);
        slotAt(slot).put(window);
        return window.nights;
    }

    public int restore(int slot) throws IndexOutOfBoundsException, IllegalStateException {
        needSlot(slot);
        Slot chosen = slotAt(slot);
        if (!chosen.full) {
            throw new IllegalStateException("nothing has been saved there");
        }
        window.copy(chosen.kept);
        past.forget();
        return window.nights;
    }

    private Slot slotAt(int slot) {
        return slot == 0 ? firstSlot : secondSlot;
    }

    private void needSlot(int slot) {
        if (slot < 0 || slot > 1) {
            throw new IndexOutOfBoundsException("no such save slot");
        }
    }

    private void needCell(int k) {
        if (!window.hasCell(k)) {
            throw new IndexOutOfBoundsException("no such cell");
        }
    }

    private void needRange(int value, int least, int most) {
        if (!isWithin(value, least, most)) {
            throw new IllegalArgumentException("an argument is out of its range");
        }
    }

    private void needLinearRule() {
        if (window.rule == FREEZING) {
            throw new IllegalStateException("the rule is 0");
        }
    }

    private static boolean isWithin(int value, int least, int most) {
        return value >= least && value <= most;
    }

    private static boolean holds(long set, int k) {
        return (set >>> k & 1L) != 0L;
    }

    /**
     * The state: the window and all that belongs to it, its cells as sets. The changes answer
     * NONE, and change nothing, where the methods of the face throw an exception.
     */
    private static final class Window {
        int rows;
        int cells;
        int rule;
        int nights;
        long frozen;
        private int kinds;
        private long topRow;
        private long rightColumn;
        private long bottomRow;
        private long leftColumn;
        // A scratch belongs to the cell on its left, or above it; on joined sides this is the
        // last cell of the row, or the one in the last row.
        private long rightScratches;
        private long lowerScratches;

        Window() {
            rows = FIRST_SIDE;
            cells = FIRST_SIDE;
            rule = FREEZING;
            nights = 0;
            layOut();
        }

        void copy(Window other) {
            rows = other.rows;
            cells = other.cells;
            rule = other.rule;
            nights = other.nights;
            frozen = other.frozen;
            kinds = other.kinds;
            topRow = other.topRow;
            rightColumn = other.rightColumn;
            bottomRow = other.bottomRow;
            leftColumn = other.leftColumn;
            rightScratches = other.rightScratches;
            lowerScratches = other.lowerScratches;
        }

        void renew(int newRows, int newCells) {
            rule = FREEZING;
            nights = 0;
            replace(newRows, newCells);
        }

        void replace(int newRows, int newCells) {
            rows = newRows;
            cells = newCells;
            frozen = 0L;
            kinds = 0;
            rightScratches = 0L;
            lowerScratches = 0L;
            layOut();
        }

        private void layOut() {
            topRow = (1L << cells) - 1L;
            bottomRow = topRow << (rows - 1) * cells;
            leftColumn = 0L;
            for (int r = 0; r < rows; r++) {
                leftColumn |= 1L << r * cells;
            }
            rightColumn = leftColumn << cells - 1;
        }

        int count() {
            return rows * cells;
        }

        boolean hasCell(int k) {
            return k >= 0 && k < rows * cells;
        }

        boolean isFrozen(int k) {
            return holds(frozen, k);
        }

        int kind(int side) {
            return kinds >>> 2 * side & 3;
        }

        // ---- neighbours and scratches

        int beside(int k, int d) {
            if (!holds(along(d), k)) {
                return k + step(d);
            }
            return kind(d) == JOINED ? k - stepsAcross(d) : NONE;
        }

        private long along(int side) {
            switch (side) {
                case UP:
                    return topRow;
                case RIGHT:
                    return rightColumn;
                case DOWN:
                    return bottomRow;
                default:
                    return leftColumn;
            }
        }

        private int step(int d) {
            switch (d) {
                case UP:
                    return -cells;
                case RIGHT:
                    return 1;
                case DOWN:
                    return cells;
                default:
                    return -1;
            }
        }

        private int stepsAcross(int d) {
            return step(d) * ((d == UP || d == DOWN ? rows : cells) - 1);
        }

        boolean isScratched(int k, int d) {
            int other = beside(k, d);
            if (other == NONE) {
                return false;
            }
            switch (d) {
                case UP:
                    return holds(lowerScratches, other);
                case RIGHT:
                    return holds(rightScratches, k);
                case DOWN:
                    return holds(lowerScratches, k);
                default:
                    return holds(rightScratches, other);
            }
        }

        int scratchesAt(int k) {
            int set = 0;
            for (int d = UP; d <= LEFT; d++) {
                if (isScratched(k, d)) {
                    set |= 1 << d;
                }
            }
            return set;
        }

        int scratches() {
            long across = kind(RIGHT) == JOINED ? rightScratches : rightScratches & ~rightColumn;
            long down = kind(DOWN) == JOINED ? lowerScratches : lowerScratches & ~bottomRow;
            return Long.bitCount(across) + Long.bitCount(down);
        }

        /** The cells whose neighbour in the direction d, without a scratch between, is in the set. */
        private long reaching(long set, int d) {
            boolean isJoined = kind(d) == JOINED;
            switch (d) {
                case UP:
                    return fromAbove(set & ~lowerScratches, isJoined);
                case RIGHT:
                    return fromRight(set, isJoined) & ~rightScratches;
                case DOWN:
                    return fromBelow(set, isJoined) & ~lowerScratches;
                default:
                    return fromLeft(set & ~rightScratches, isJoined);
            }
        }

        private long fromAbove(long set, boolean isJoined) {
            long inside = (set & ~bottomRow) << cells;
            return isJoined ? inside | (set & bottomRow) >>> (rows - 1) * cells : inside;
        }

        private long fromRight(long set, boolean isJoined) {
            long inside = (set & ~leftColumn) >>> 1;
            return isJoined ? inside | (set & leftColumn) << cells - 1 : inside;
        }

        private long fromBelow(long set, boolean isJoined) {
            long inside = (set & ~topRow) >>> cells;
            return isJoined ? inside | (set & topRow) << (rows - 1) * cells : inside;
        }

        private long fromLeft(long set, boolean isJoined) {
            long inside = (set & ~rightColumn) << 1;
            return isJoined ? inside | (set & rightColumn) >>> cells - 1 : inside;
        }

        private long around(long set) {
            return reaching(set, UP) | reaching(set, RIGHT) | reaching(set, DOWN) | reaching(set, LEFT);
        }

        // ---- cold and nights

        int cold(int k) {
            int cold = 0;
            for (int d = UP; d <= LEFT; d++) {
                if (holds(coldFrom(frozen, d), k)) {
                    cold++;
                }
            }
            return cold;
        }

        private long coldFrom(long set, int d) {
            return kind(d) == ICY ? reaching(set, d) | along(d) : reaching(set, d);
        }

        /** What one night makes of a set of frozen cells. */
        long after(long set) {
            long odd = coldFrom(set, UP) ^ coldFrom(set, RIGHT) ^ coldFrom(set, DOWN) ^ coldFrom(set, LEFT);
            if (rule == FREEZING) {
                return set | odd;
            }
            return rule == ODD ? odd : set ^ odd;
        }

        boolean staysClear(int k, int n) {
            long set = frozen;
            for (int i = 0; i < n; i++) {
                set = after(set);
                if (holds(set, k)) {
                    return false;
                }
            }
            return true;
        }

        // ---- patches

        long patchAt(int k) {
            return patchFrom(1L << k & frozen);
        }

        private long patchFrom(long start) {
            long patch = start;
            for (int i = 0; i < MOST_CELLS; i++) {
                long grown = patch | around(patch) & frozen;
                if (grown == patch) {
                    return patch;
                }
                patch = grown;
            }
            return patch;
        }

        int patches() {
            long left = frozen;
            int count = 0;
            for (int i = 0; i < MOST_CELLS && left != 0L; i++) {
                left &= ~patchFrom(left & -left);
                count++;
            }
            return count;
        }

        int largestPatch() {
            long left = frozen;
            int largest = 0;
            for (int i = 0; i < MOST_CELLS && left != 0L; i++) {
                long patch = patchFrom(left & -left);
                left &= ~patch;
                largest = Math.max(largest, Long.bitCount(patch));
            }
            return largest;
        }

        // ---- changes

        int turn(int k) {
            if (!hasCell(k)) {
                return NONE;
            }
            frozen ^= 1L << k;
            return isFrozen(k) ? 1 : 0;
        }

        int scrape(int k, int d) {
            if (!hasCell(k) || !isWithin(d, UP, LEFT)) {
                return NONE;
            }
            int other = beside(k, d);
            if (other == NONE) {
                return NONE;
            }
            long owner = 1L << (d == RIGHT || d == DOWN ? k : other);
            if (d == RIGHT || d == LEFT) {
                rightScratches ^= owner;
            } else {
                lowerScratches ^= owner;
            }
            return isScratched(k, d) ? 1 : 0;
        }

        int putKind(int side, int kind) {
            if (!isWithin(side, UP, LEFT) || !isWithin(kind, 0, JOINED)) {
                return NONE;
            }
            int was = kind(side);
            overwriteKind(side, kind);
            if (was == JOINED || kind == JOINED) {
                overwriteKind(side ^ 2, kind);
            }
            return was;
        }

        private void overwriteKind(int side, int kind) {
            kinds = kinds & ~(3 << 2 * side) | kind << 2 * side;
        }

        int putRule(int newRule) {
            if (!isWithin(newRule, 0, 2)) {
                return NONE;
            }
            int was = rule;
            rule = newRule;
            return was;
        }

        int thaw(int k, int steps) {
            if (!hasCell(k) || !isWithin(steps, 0, MOST_STEPS)) {
                return NONE;
            }
            long warm = 1L << k;
            for (int i = 0; i < steps; i++) {
                warm |= around(warm);
            }
            int thawing = Long.bitCount(frozen & warm);
            frozen &= ~warm;
            return thawing;
        }

        int pass(int n) {
            if (!isWithin(n, 1, MOST_NIGHTS)) {
                return NONE;
            }
            for (int i = 0; i < n; i++) {
                frozen = after(frozen);
            }
            nights += n;
            return Long.bitCount(frozen);
        }
    }

    /** The remembered states, in a ring. */
    private static final class Past {
        int count;
        private int newest;
        private final Window[] kept;

        Past() {
            kept = new Window[UNDO_LIMIT];
            for (int i = 0; i < kept.length; i++) {
                kept[i] = new Window();
            }
        }

        void forget() {
            count = 0;
        }

        void remember(Window window) {
            newest = (newest + 1) % UNDO_LIMIT;
            Window place = newestKept();
            if (place != null) {
                place.copy(window);
            }
            count = Math.min(count + 1, UNDO_LIMIT);
        }

        void takeBack(Window window) {
            Window place = newestKept();
            if (place != null) {
                window.copy(place);
            }
            newest = (newest + UNDO_LIMIT - 1) % UNDO_LIMIT;
            count = Math.max(count - 1, 0);
        }

        private Window newestKept() {
            return newest >= 0 && newest < kept.length ? kept[newest] : null;
        }
    }

    /** A save slot. */
    private static final class Slot {
        final Window kept;
        boolean full;

        Slot() {
            kept = new Window();
        }

        void put(Window window) {
            kept.copy(window);
            full = true;
        }

        void empty() {
            full = false;
        }
    }

    /**
     * The states before a night, as equations of parity: the rules 1 and 2 make each cell of now
     * the parity of some cells before.
     */
    private static final class Equations {
        private final long[] terms;
        private int count;
        // Which equations ask for an odd parity, and which have been used for a cell.
        private long odd;
        private long used;

        Equations() {
            terms = new long[MOST_CELLS];
        }

        void solve(Window window) {
            write(window);
            used = 0L;
            for (int k = 0; k < count; k++) {
                int i = unusedWith(k);
                if (i != NONE) {
                    used |= 1L << i;
                    takeOutOfOthers(k, i);
                }
            }
        }

        // Whom a cell has as neighbour has it as neighbour over the same scratch, so the cells
        // that k changes are also those that change k.
        private void write(Window window) {
            long withoutFrost = window.after(0L);
            count = Math.min(window.count(), terms.length);
            odd = window.frozen ^ withoutFrost;
            for (int k = 0; k < count && k < terms.length; k++) {
                terms[k] = window.after(1L << k) ^ withoutFrost;
            }
        }

        private int unusedWith(int k) {
            for (int i = 0; i < count; i++) {
                if (!holds(used, i) && holds(term(i), k)) {
                    return i;
                }
            }
            return NONE;
        }

        private void takeOutOfOthers(int k, int i) {
            long term = term(i);
            boolean isOdd = holds(odd, i);
            for (int j = 0; j < count && j < terms.length; j++) {
                if (j != i && holds(terms[j], k)) {
                    terms[j] ^= term;
                    odd ^= isOdd ? 1L << j : 0L;
                }
            }
        }

        private long term(int i) {
            return i >= 0 && i < terms.length ? terms[i] : 0L;
        }

        boolean isSolved() {
            return (odd & ~used) == 0L;
        }

        int free() {
            return count - Long.bitCount(used);
        }

        // The cells were taken from the lowest on, so each used equation tells its lowest cell by
        // higher cells that are free: with those clear, no state is less.
        long leastSolution() {
            long solution = 0L;
            for (int i = 0; i < count; i++) {
                if (holds(used & odd, i)) {
                    solution |= term(i) & -term(i);
                }
            }
            return solution;
        }
    }

    /** The text buffer, and how it is read as a window. */
    private static final class Text {
        char letter;
        int first;
        int second;
        private final char[] signs;
        private int length;
        private int place;

        Text() {
            signs = new char[TEXT_LIMIT];
        }

        boolean isFull() {
            return length >= signs.length;
        }

        int add(char sign) {
            if (length >= 0 && length < signs.length) {
                signs[length] = sign;
                length++;
            }
            return length;
        }

        int empty() {
            int was = length;
            length = 0;
            return was;
        }

        int firstError() {
            if (!readWindow()) {
                return place;
            }
            for (int i = 0; i < TEXT_LIMIT && place < length; i++) {
                if (!readCommand()) {
                    return place;
                }
            }
            return NONE;
        }

        // Each reading that fails leaves the place at the sign that is not allowed.

        boolean readWindow() {
            place = 0;
            if (sign() != 'W') {
                return false;
            }
            place++;
            return readFirst(1, LEAST_SIDE, MOST_SIDE) && readSecond(LEAST_SIDE, MOST_SIDE);
        }

        boolean readCommand() {
            if (place >= length) {
                return false;
            }
            letter = (char) sign();
            second = 0;
            switch (letter) {
                case 'f':
                    place++;
                    return readCell();
                case 's':
                    place++;
                    return readCell() && readSecond(UP, LEFT);
                case 'b':
                    place++;
                    return readFirst(1, UP, LEFT) && readSecond(0, JOINED);
                case 'r':
                    place++;
                    return readFirst(1, 0, 2);
                case 't':
                    place++;
                    return readCell() && readSecond(0, MOST_STEPS);
                case 'n':
                    place++;
                    return readFirst(2, 1, MOST_NIGHTS);
                default:
                    return false;
            }
        }

        private boolean readCell() {
            return readFirst(2, 0, MOST_CELLS - 1);
        }

        private boolean readFirst(int digits, int least, int most) {
            first = readNumber(digits, least, most);
            return first != NONE;
        }

        private boolean readSecond(int least, int most) {
            second = readNumber(1, least, most);
            return second != NONE;
        }

        private int readNumber(int digits, int least, int most) {
            int low = 0;
            int open = digits == 2 ? 100 : 10;
            for (int i = 0; i < digits; i++) {
                int sign = sign();
                if (sign < '0' || sign > '9') {
                    return NONE;
                }
                open = open / 10;
                low += (sign - '0') * open;
                if (low > most || low + open - 1 < least) {
                    return NONE;
                }
                place++;
            }
            return low;
        }

        private int sign() {
            return place >= 0 && place < length && place < signs.length ? signs[place] : NONE;
        }
    }
}
