import java.math.BigInteger;
import java.util.ArrayDeque;
import java.util.ArrayList;
import java.util.HashMap;
import java.util.List;
import java.util.Map;
import java.util.regex.Matcher;
import java.util.regex.Pattern;

/** The document once more, cell by cell and without a thought of speed: what PaneFrost is held against. */
final class Model {
    private static final int NONE = -1;
    private static final int[] DOWNWARD = {-1, 0, 1, 0};
    private static final int[] ONWARD = {0, 1, 0, -1};
    private static final String CELL = "([0-5][0-9]|6[0-3])";
    private static final String COMMAND = "(f" + CELL + "|s" + CELL + "[0-3]|b[0-3][0-2]|r[0-2]|t" + CELL
            + "[0-9]|n(0[1-9]|[1-5][0-9]|60))";
    private static final Pattern WINDOW = Pattern.compile("W[2-8][2-8]" + COMMAND + "*", Pattern.DOTALL);

    private static final class State {
        int rows = 4;
        int cells = 4;
        int rule;
        int nights;
        int[] sides = new int[4];
        boolean[] ice = new boolean[16];
        boolean[][] scratch = new boolean[16][4];

        State copy() {
            State s = new State();
            s.rows = rows;
            s.cells = cells;
            s.rule = rule;
            s.nights = nights;
            s.sides = sides.clone();
            s.ice = ice.clone();
            s.scratch = new boolean[scratch.length][];
            for (int k = 0; k < scratch.length; k++) {
                s.scratch[k] = scratch[k].clone();
            }
            return s;
        }
    }

    private final StringBuilder text = new StringBuilder();
    private final State[] slots = new State[2];
    private final ArrayDeque<State> past = new ArrayDeque<>();
    private State now = new State();

    public int append(int c) {
        need(c >= 0 && c <= 255);
        if (text.length() == 120) {
            throw new IllegalStateException();
        }
        text.append((char) c);
        return text.length();
    }

    public int clearText() {
        int was = text.length();
        text.setLength(0);
        return was;
    }

    public int errorPosition() {
        for (int i = 0; i < text.length(); i++) {
            Matcher matcher = WINDOW.matcher(text.substring(0, i + 1));
            if (!matcher.matches() && !matcher.hitEnd()) {
                return i;
            }
        }
        return WINDOW.matcher(text).matches() ? NONE : text.length();
    }

    public int load() {
        if (errorPosition() != NONE) {
            throw new IllegalStateException();
        }
        now = new State();
        past.clear();
        slots[0] = null;
        slots[1] = null;
        renew(text.charAt(1) - '0', text.charAt(2) - '0');
        int leftOut = 0;
        Matcher matcher = Pattern.compile(COMMAND).matcher(text);
        while (matcher.find()) {
            try {
                obey(matcher.group());
            } catch (RuntimeException e) {
                leftOut++;
            }
        }
        past.clear();
        return leftOut;
    }

    private void obey(String command) {
        char first = command.charAt(0);
        int last = command.charAt(command.length() - 1) - '0';
        int two = command.length() > 2 ? (command.charAt(1) - '0') * 10 + command.charAt(2) - '0' : last;
        if (first == 'f') {
            flip(two);
        } else if (first == 's') {
            scratch(two, last);
        } else if (first == 'b') {
            border(two / 10, last);
        } else if (first == 'r') {
            rule(last);
        } else if (first == 't') {
            breathe(two, last);
        } else {
            nights(two);
        }
    }

    public int about(int what) {
        need(what >= 0 && what <= 7);
        List<List<Integer>> patches = patches();
        int largest = 0;
        for (List<Integer> patch : patches) {
            largest = Math.max(largest, patch.size());
        }
        int scratches = 0;
        for (int k = 0; k < count(); k++) {
            scratches += Integer.bitCount(cell(k, 3));
        }
        return new int[] {now.rows, now.cells, total(), scratches / 2, now.rule, now.nights, patches.size(), largest}[what];
    }

    public long frozen() {
        long set = 0L;
        for (int k = 0; k < count(); k++) {
            set += now.ice[k] ? 1L << k : 0L;
        }
        return set;
    }

    public int cell(int k, int what) {
        needCell(k);
        need(what >= 0 && what <= 3);
        if (what == 0) {
            return now.ice[k] ? 1 : 0;
        }
        if (what == 1) {
            return cold(k);
        }
        if (what == 2) {
            for (List<Integer> patch : patches()) {
                if (patch.contains(k)) {
                    return patch.size();
                }
            }
            return 0;
        }
        int set = 0;
        for (int d = 0; d < 4; d++) {
            set += next(k, d) != NONE && now.scratch[k][d] ? 1 << d : 0;
        }
        return set;
    }

    public int neighbour(int k, int d) {
        needCell(k);
        need(d >= 0 && d <= 3);
        return next(k, d);
    }

    public int side(int side) {
        need(side >= 0 && side <= 3);
        return now.sides[side];
    }

    public int size(int rows, int cells) {
        need(rows >= 2 && rows <= 8 && cells >= 2 && cells <= 8);
        remember();
        renew(rows, cells);
        return count();
    }

    public int flip(int k) {
        needCell(k);
        remember();
        now.ice[k] = !now.ice[k];
        return now.ice[k] ? 1 : 0;
    }

    public int scratch(int k, int d) {
        needCell(k);
        need(d >= 0 && d <= 3);
        int other = next(k, d);
        if (other == NONE) {
            throw new IllegalStateException();
        }
        remember();
        boolean then = !now.scratch[k][d];
        now.scratch[k][d] = then;
        now.scratch[other][(d + 2) % 4] = then;
        return then ? 1 : 0;
    }

    public int border(int side, int kind) {
        need(side >= 0 && side <= 3 && kind >= 0 && kind <= 2);
        remember();
        int was = now.sides[side];
        now.sides[side] = kind;
        if (kind == 2 || was == 2) {
            now.sides[(side + 2) % 4] = kind;
        }
        return was;
    }

    public int rule(int rule) {
        need(rule >= 0 && rule <= 2);
        remember();
        int was = now.rule;
        now.rule = rule;
        return was;
    }

    public int breathe(int k, int steps) {
        needCell(k);
        need(steps >= 0 && steps <= 9);
        remember();
        Map<Integer, Integer> far = new HashMap<>();
        ArrayDeque<Integer> queue = new ArrayDeque<>();
        far.put(k, 0);
        queue.add(k);
        while (!queue.isEmpty()) {
            int at = queue.remove();
            for (int d = 0; d < 4; d++) {
                int other = open(at, d);
                if (other != NONE && !far.containsKey(other)) {
                    far.put(other, far.get(at) + 1);
                    queue.add(other);
                }
            }
        }
        int before = total();
        for (Map.Entry<Integer, Integer> entry : far.entrySet()) {
            if (entry.getValue() <= steps) {
                now.ice[entry.getKey()] = false;
            }
        }
        return before - total();
    }

    public int nights(int n) {
        need(n >= 1 && n <= 60);
        remember();
        for (int i = 0; i < n; i++) {
            night();
        }
        now.nights += n;
        return total();
    }

    public int undo() {
        if (past.isEmpty()) {
            throw new IllegalStateException();
        }
        now = past.removeLast();
        return past.size();
    }

    public long coming(int n) {
        need(n >= 1 && n <= 200);
        return aside(() -> {
            for (int i = 0; i < n; i++) {
                night();
            }
            return frozen();
        });
    }

    public int again(int what) {
        need(what == 0 || what == 1);
        return (int) aside(() -> {
            Map<Long, Integer> seen = new HashMap<>();
            for (int i = 0; i <= 300; i++) {
                Integer first = seen.putIfAbsent(frozen(), i);
                if (first != null) {
                    return what == 0 ? first : i - first;
                }
                night();
            }
            return NONE;
        });
    }

    public int befores() {
        return sources().free;
    }

    public long before() {
        return sources().least.longValue();
    }

    public int freezesIn(int k) {
        needCell(k);
        return (int) aside(() -> {
            for (int i = 0; i <= 100; i++) {
                if (now.ice[k]) {
                    return i;
                }
                night();
            }
            return NONE;
        });
    }

    public int keeps(int k, int n) {
        needCell(k);
        need(n >= 1 && n <= 20);
        for (int number = 0; number < 4 * count(); number++) {
            int from = number / 4;
            int d = number % 4;
            if (next(from, d) == NONE || now.scratch[from][d]) {
                continue;
            }
            long kept = aside(() -> {
                scratch(from, d);
                for (int i = 0; i < n; i++) {
                    night();
                    if (now.ice[k]) {
                        return 0;
                    }
                }
                return 1;
            });
            if (kept == 1) {
                return number;
            }
        }
        return NONE;
    }

    public int runScript(int n, long script) {
        need(n >= 1 && n <= 3 && script >= 0 && Long.toString(script).length() <= 4 * n);
        String digits = String.format("%0" + 4 * n + "d", script);
        return (int) aside(() -> {
            for (int i = 0; i < n; i++) {
                try {
                    command(digits.substring(4 * i, 4 * i + 4));
                } catch (RuntimeException e) {
                    return i;
                }
            }
            return NONE;
        });
    }

    private void command(String group) {
        int kk = Integer.parseInt(group.substring(1, 3));
        int nn = Integer.parseInt(group.substring(2));
        int last = group.charAt(3) - '0';
        if (group.matches("1..0")) {
            flip(kk);
        } else if (group.matches("2...")) {
            scratch(kk, last);
        } else if (group.matches("30..")) {
            border(kk, last);
        } else if (group.matches("400.")) {
            rule(last);
        } else if (group.matches("50..")) {
            nights(nn);
        } else if (group.matches("6...")) {
            breathe(kk, last);
        } else if (group.matches("7..[01]")) {
            need(cell(kk, 0) == last);
        } else if (group.matches("8...")) {
            need(cell(kk, 1) == last);
        } else if (group.matches("90..")) {
            need(total() >= nn);
        } else {
            need(false);
        }
    }

    public int simulate(long seed, int m) {
        need(m >= 1 && m <= 60);
        return (int) aside(() -> {
            BigInteger x = BigInteger.valueOf(seed);
            BigInteger whole = BigInteger.ONE.shiftLeft(64);
            for (int i = 0; i < m; i++) {
                x = x.multiply(new BigInteger("6364136223846793005")).add(new BigInteger("1442695040888963407")).mod(whole);
                try {
                    turn(x.shiftRight(33).intValueExact());
                } catch (IndexOutOfBoundsException | IllegalStateException e) {
                    continue;
                }
            }
            return 100 * total() + patches().size();
        });
    }

    private void turn(int r) {
        int q = r / 8;
        int way = r % 8;
        if (way < 3) {
            flip(q % 64);
        } else if (way == 3) {
            scratch(q % 64, q / 64 % 4);
        } else if (way == 4) {
            if (q / 16 % 3 == 0) {
                border(q % 4, q / 4 % 3);
            } else {
                breathe(q / 64 % 64, q % 4);
            }
        } else if (way == 5) {
            rule(q % 3);
        } else {
            nights(1 + q % 6);
        }
    }

    public int save(int slot) {
        needSlot(slot);
        slots[slot] = now.copy();
        return now.nights;
    }

    public int restore(int slot) {
        needSlot(slot);
        if (slots[slot] == null) {
            throw new IllegalStateException();
        }
        now = slots[slot].copy();
        past.clear();
        return now.nights;
    }

    private interface Work {
        long run();
    }

    private long aside(Work work) {
        State kept = now.copy();
        ArrayDeque<State> keptPast = new ArrayDeque<>(past);
        long answer = work.run();
        now = kept;
        past.clear();
        past.addAll(keptPast);
        return answer;
    }

    private void remember() {
        past.addLast(now.copy());
        if (past.size() > 14) {
            past.removeFirst();
        }
    }

    private void renew(int rows, int cells) {
        now.rows = rows;
        now.cells = cells;
        now.sides = new int[4];
        now.ice = new boolean[rows * cells];
        now.scratch = new boolean[rows * cells][4];
    }

    private int count() {
        return now.rows * now.cells;
    }

    private int total() {
        return Long.bitCount(frozen());
    }

    private int next(int k, int d) {
        int r = k / now.cells + DOWNWARD[d];
        int c = k % now.cells + ONWARD[d];
        if (r < 0 || r >= now.rows || c < 0 || c >= now.cells) {
            if (now.sides[d] != 2) {
                return NONE;
            }
            r = Math.floorMod(r, now.rows);
            c = Math.floorMod(c, now.cells);
        }
        return r * now.cells + c;
    }

    private boolean iceAt(int k, int d) {
        return next(k, d) == NONE && now.sides[d] == 1;
    }

    private int open(int k, int d) {
        return next(k, d) == NONE || now.scratch[k][d] ? NONE : next(k, d);
    }

    private int cold(int k) {
        int cold = 0;
        for (int d = 0; d < 4; d++) {
            int other = open(k, d);
            if (iceAt(k, d) || other != NONE && now.ice[other]) {
                cold++;
            }
        }
        return cold;
    }

    private void night() {
        boolean[] then = new boolean[count()];
        for (int k = 0; k < then.length; k++) {
            boolean odd = cold(k) % 2 == 1;
            if (now.rule == 0) {
                then[k] = now.ice[k] || odd;
            } else if (now.rule == 1) {
                then[k] = odd;
            } else {
                then[k] = odd && !now.ice[k] || !odd && now.ice[k];
            }
        }
        now.ice = then;
    }

    private List<List<Integer>> patches() {
        List<List<Integer>> all = new ArrayList<>();
        boolean[] seen = new boolean[count()];
        for (int k = 0; k < count(); k++) {
            if (!now.ice[k] || seen[k]) {
                continue;
            }
            List<Integer> patch = new ArrayList<>();
            patch.add(k);
            seen[k] = true;
            for (int i = 0; i < patch.size(); i++) {
                for (int d = 0; d < 4; d++) {
                    int other = open(patch.get(i), d);
                    if (other != NONE && now.ice[other] && !seen[other]) {
                        seen[other] = true;
                        patch.add(other);
                    }
                }
            }
            all.add(patch);
        }
        return all;
    }

    private static final class Sources {
        int free = NONE;
        BigInteger least = BigInteger.ZERO;
    }

    // Each single cell's night is a word: its cells low, and, high, a mark of whose it is. What is
    // left without low cells is a set that changes nothing.
    private Sources sources() {
        if (now.rule == 0) {
            throw new IllegalStateException();
        }
        int n = count();
        BigInteger goal = nightOf(BigInteger.ZERO).xor(unsigned(frozen()));
        List<BigInteger> words = new ArrayList<>();
        for (int k = 0; k < n; k++) {
            BigInteger cell = BigInteger.ONE.shiftLeft(k);
            words.add(nightOf(cell).xor(nightOf(BigInteger.ZERO)).or(cell.shiftLeft(n)));
        }
        BigInteger rest = goal;
        for (int bit = 0; bit < n; bit++) {
            BigInteger chosen = takeWith(words, bit);
            if (chosen == null) {
                continue;
            }
            for (int i = 0; i < words.size(); i++) {
                words.set(i, words.get(i).testBit(bit) ? words.get(i).xor(chosen) : words.get(i));
            }
            rest = rest.testBit(bit) ? rest.xor(chosen) : rest;
        }
        Sources sources = new Sources();
        if (rest.mod(BigInteger.ONE.shiftLeft(n)).signum() != 0) {
            return sources;
        }
        sources.free = words.size();
        sources.least = least(rest.shiftRight(n), words, n);
        return sources;
    }

    private static BigInteger takeWith(List<BigInteger> words, int bit) {
        for (int i = 0; i < words.size(); i++) {
            if (words.get(i).testBit(bit)) {
                return words.remove(i);
            }
        }
        return null;
    }

    private static BigInteger least(BigInteger one, List<BigInteger> idle, int n) {
        List<BigInteger> sets = new ArrayList<>();
        for (BigInteger word : idle) {
            sets.add(word.shiftRight(n));
        }
        BigInteger least = one;
        for (int bit = n - 1; bit >= 0; bit--) {
            BigInteger chosen = takeWith(sets, bit);
            if (chosen == null) {
                continue;
            }
            for (int i = 0; i < sets.size(); i++) {
                sets.set(i, sets.get(i).testBit(bit) ? sets.get(i).xor(chosen) : sets.get(i));
            }
            least = least.testBit(bit) ? least.xor(chosen) : least;
        }
        return least;
    }

    private BigInteger nightOf(BigInteger set) {
        return unsigned(aside(() -> {
            for (int k = 0; k < count(); k++) {
                now.ice[k] = set.testBit(k);
            }
            night();
            return frozen();
        }));
    }

    private static BigInteger unsigned(long set) {
        return new BigInteger(Long.toUnsignedString(set));
    }

    private void needCell(int k) {
        if (k < 0 || k >= count()) {
            throw new IndexOutOfBoundsException();
        }
    }

    private static void needSlot(int slot) {
        if (slot != 0 && slot != 1) {
            throw new IndexOutOfBoundsException();
        }
    }

    private static void need(boolean inRange) {
        if (!inRange) {
            throw new IllegalArgumentException();
        }
    }
}
