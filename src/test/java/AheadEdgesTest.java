/** The edges that the document names: promises 19 to 24, a sentence each. */
public final class AheadEdgesTest {
    private static final Class<IllegalArgumentException> ARGUMENT = IllegalArgumentException.class;
    private static final Class<IndexOutOfBoundsException> INDEX = IndexOutOfBoundsException.class;
    private static final Class<IllegalStateException> STATE = IllegalStateException.class;
    private static final int NONE = PaneFrost.NONE;
    /** Joined, icy and dry sides, scratches and each rule. */
    private static final String[] WINDOWS = {"W33f04", "W33f04r1b02s043", "W34f05f06r2b12b01s003s061", "W22f00b12b02r1s001",
        "W23f00f04r2b11b02s012", "W42f03f06r1b21b12s030s073", "W28f00r2", "W82f15r1b02"};
    private static final Check check = new Check("AheadEdgesTest");

    public static void main(String[] args) {
        coming();
        againAtOnce();
        againLimit();
        againThrows();
        befores();
        beforesLimits();
        beforesInEachSize();
        beforesThrow();
        before();
        beforeWithoutSign();
        beforeOfNone();
        freezesIn();
        freezesFirst();
        freezesThrows();
        keepsNights();
        keepsEachNight();
        keepsTheLeast();
        keepsWhereNoScratchIs();
        keepsNone();
        keepsByTrying();
        keepsThrows();
        check.close();
    }

    // ---- promises 19 and 20

    private static void coming() {
        check.sentence(19, "Returns the frozen cells behind n nights, as a set.");
        check.same("none", new PaneFrost().coming(200), 0L);
        check.same("the highest", Looks.loaded("W88f63f55s552").coming(1) & Long.MIN_VALUE, Long.MIN_VALUE);
        check.same("all", Looks.full(8, 8).coming(200), -1L);
        for (String text : WINDOWS) {
            PaneFrost x = Looks.loaded(text);
            PaneFrost night = Looks.loaded(text);
            for (int n = 1; n <= 200; n++) {
                night.nights(1);
                check.same("coming(" + n + ") of " + text, x.coming(n), night.frozen());
            }
        }
        check.sentence(19, "- `n`: 1 to 200");
        check.same("the least", Looks.loaded("W33f04r1").coming(1), Looks.set(1, 3, 5, 7));
        check.same("the greatest", Looks.loaded("W22f00s002s012r1").coming(200), 1L);
        check.same("one less", Looks.loaded("W22f00s002s012r1").coming(199), 2L);
        check.sentence(19, "Tells how the window would look.");
        PaneFrost x = Looks.loaded("W33f04r1");
        x.coming(200);
        check.same("it does not look so", x.frozen(), 16L);
        check.same("no night went by", x.about(5), 0);
        check.sentence(19, "Throws `IllegalArgumentException` if n is out of range");
        check.refused(x, "0", ARGUMENT, () -> x.coming(0));
        check.refused(x, "201", ARGUMENT, () -> x.coming(201));
        check.refused(x, "-1", ARGUMENT, () -> x.coming(-1));
    }

    private static void againAtOnce() {
        check.sentence(20, "- `what`: 0: behind how many nights those came for the first time that come again; 1: how many nights are between both times");
        again("W44", 0, 1);
        again("W44r1", 0, 1);
        again("W33f04", 1, 1);
        again("W28f00s002s012s022s032s042s052s062s072", 7, 1);
        again("W22f00s002s012r1", 0, 2);
        again("W22f00r1", 2, 1);
        again("W33b01b11b21b31f00f01f02f03f04f05f06f07f08", 0, 1);
        PaneFrost way = Looks.loaded("W88f00");
        Looks.windUp(way);
        check.same("the longest way", way.again(0), 63);
        check.same("then it stays", way.again(1), 1);
        check.sentence(20, "The frozen cells of now, and behind 1, 2 and more nights, are looked at, up to 300 nights, until some come for the second time.");
        for (String text : WINDOWS) {
            byHand(text);
        }
    }

    private static void again(String text, int first, int between) {
        PaneFrost x = Looks.loaded(text);
        check.same("again(0) of " + text, x.again(0), first);
        check.same("again(1) of " + text, x.again(1), between);
    }

    private static void byHand(String text) {
        long[] seen = Looks.ahead(text, 300);
        for (int i = 0; i <= 300; i++) {
            for (int first = 0; first < i; first++) {
                if (seen[first] == seen[i]) {
                    again(text, first, i - first);
                    return;
                }
            }
        }
        again(text, NONE, NONE);
    }

    private static void againLimit() {
        check.sentence(20, "Returns that number; NONE if none come again by then.");
        again("W75r1b00b11f21s223s042", 8, 292);
        again("W78r2b01b11f36s051s483f13s043s343s180s291s301", 20, 280);
        again("W77r2b32b31s063s041f32f48s350s411s322s403f27s190s393", 0, 300);
        oneTooLate("W66r1b01b10s042f12f14s000s310s130f06f08f32", 8, 292);
        oneTooLate("W48r1b00b11s042s280s122f10s170s003s203s003f31", 8, 292);
        oneTooLate("W68r1b01b11s441s473f37s331f46f07f34s021", 20, 280);
        again("W57r2b02b10s181f25s191s210s062", NONE, NONE);
        again("W66r1b02b10s040s091f01", NONE, NONE);
    }

    /** Some come again behind 301 nights, from the next night on behind 300. */
    private static void oneTooLate(String text, int first, int between) {
        again(text, NONE, NONE);
        PaneFrost x = Looks.loaded(text);
        x.nights(1);
        check.same("again(0) a night later", x.again(0), first);
        check.same("again(1) a night later", x.again(1), between);
        x.undo();
        check.same("again(0) as before", x.again(0), NONE);
    }

    private static void againThrows() {
        check.sentence(20, "Throws `IllegalArgumentException` if what is neither 0 nor 1");
        PaneFrost x = Looks.loaded("W33f04");
        check.refused(x, "-1", ARGUMENT, () -> x.again(-1));
        check.refused(x, "2", ARGUMENT, () -> x.again(2));
    }

    // ---- promises 21 and 22

    /** An 8 by 8 window of which each cell is alone, but those between the numbers 4 * (a cell) + (a direction). */
    private static PaneFrost alone(int rule, int... open) {
        PaneFrost x = Looks.sized(8, 8);
        x.rule(rule);
        Looks.scratchAll(x, 8, 8);
        for (int number : open) {
            x.scratch(number / 4, number % 4);
        }
        return x;
    }

    private static void befores() {
        check.sentence(21, "Returns the number f with which there are 2 to the power of f sets of frozen cells that one night makes the frozen cells of now; NONE if there is none.");
        for (String window : new String[] {"W22", "W23b01", "W32b12s002", "W22b02b12", "W24b01b12s013", "W33b02"}) {
            for (int rule = 1; rule <= 2; rule++) {
                byTrying(window + "r" + rule);
            }
        }
    }

    /** All sets are tried, each as those before and each as those of now. */
    private static void byTrying(String text) {
        int sets = 1 << (text.charAt(1) - '0') * (text.charAt(2) - '0');
        int[] count = new int[sets];
        long[] least = new long[sets];
        for (int set = sets - 1; set >= 0; set--) {
            int then = (int) frozen(text, set).coming(1);
            count[then]++;
            least[then] = set;
        }
        for (int set = 0; set < sets; set++) {
            PaneFrost x = frozen(text, set);
            int due = count[set] == 0 ? NONE : Integer.numberOfTrailingZeros(count[set]);
            check.same("befores of " + text + " and " + set, x.befores(), due);
            check.same("before of " + text + " and " + set, x.before(), least[set]);
        }
    }

    private static PaneFrost frozen(String text, long set) {
        PaneFrost x = Looks.loaded(text);
        for (int k = 0; k < 64; k++) {
            if ((set >>> k & 1L) != 0L) {
                x.flip(k);
            }
        }
        return x;
    }

    private static void beforesLimits() {
        check.sentence(21, "there are 2 to the power of f sets of frozen cells");
        check.same("all sets of 64 cells", alone(1).befores(), 64);
        check.same("two of them tied", alone(1, 4 * 62 + 1).befores(), 62);
        check.same("one set", alone(2).befores(), 0);
        check.same("all sets of 4 cells", Looks.loaded("W22b02b12r1").befores(), 4);
        PaneFrost x = alone(1);
        x.flip(63);
        check.same("none", x.befores(), NONE);
        x.rule(2);
        check.same("itself alone", x.befores(), 0);
        x.size(2, 2);
        x.flip(3);
        check.same("itself, in a window of 2 by 2", x.befores(), 0);
        x.rule(1);
        check.same("none in it", x.befores(), NONE);
        x.flip(0);
        check.same("of two cells in it", x.befores(), 2);
        check.same("the least of those", x.before(), 2L);
        x.size(8, 8);
        check.same("in a large one again", x.befores(), 8);
        PaneFrost ice = Looks.loaded("W22b01b11b21b31r1");
        check.same("ice above and beside is even", ice.befores(), 2);
        check.same("ice above alone leaves no window clear", Looks.loaded("W22b01r1").befores(), NONE);
        check.same("it freezes the first row", Looks.loaded("W22b01r1f00f01").befores(), 2);
    }

    /** Asked of the largest window first, of which nothing may be left in the answer of another. */
    private static void beforesInEachSize() {
        check.sentence(21, "Tells from how many states the window could have come, by one night.");
        for (int rows = 2; rows <= 8; rows++) {
            for (int cells = 2; cells <= 8; cells++) {
                for (int rule = 1; rule <= 2; rule++) {
                    for (int kind = 0; kind <= 2; kind++) {
                        behindTheLargest(rows, cells, rule, kind);
                    }
                }
            }
        }
    }

    private static void behindTheLargest(int rows, int cells, int rule, int kind) {
        PaneFrost x = Looks.loaded("W88r" + rule + "f00f27f63");
        x.befores();
        x.border(0, 2);
        x.border(1, 1);
        x.befores();
        x.size(rows, cells);
        PaneFrost fresh = Looks.sized(rows, cells);
        fresh.rule(rule);
        String what = rows + " by " + cells + ", rule " + rule + ", side " + kind;
        for (int k = 0; k < 4; k++) {
            x.border(k, kind);
            fresh.border(k, kind);
            check.same("befores of " + what, x.befores(), fresh.befores());
            check.same("before of " + what, x.before(), fresh.before());
            x.flip(k);
            fresh.flip(k);
        }
        x.nights(1);
        fresh.nights(1);
        check.same("one night behind another of " + what, x.befores() >= 0, true);
        check.same("as many of " + what, x.befores(), fresh.befores());
        check.same("the least of " + what, x.before(), fresh.before());
    }

    private static void beforesThrow() {
        check.sentence(21, "Throws `IllegalStateException` if the rule is 0");
        PaneFrost x = Looks.loaded("W33f04");
        check.refused(x, "at first", STATE, () -> x.befores());
        x.rule(2);
        check.same("not by the rule 2", x.befores() >= NONE, true);
        x.rule(1);
        check.same("not by the rule 1", x.befores() >= NONE, true);
        x.rule(0);
        check.refused(x, "again", STATE, () -> x.befores());
        check.sentence(22, "Throws `IllegalStateException` if the rule is 0");
        check.refused(x, "by the rule 0", STATE, () -> x.before());
        x.undo();
        check.same("not by the rule 1", x.before(), 0L);
        x.undo();
        check.same("by the rule 2 it comes from one", frozen("W33r2", x.before()).coming(1), 16L);
        PaneFrost clear = new PaneFrost();
        check.refused(clear, "of a clear window, too", STATE, () -> clear.before());
        check.refused(clear, "befores of a clear window, too", STATE, () -> clear.befores());
    }

    private static void before() {
        check.sentence(22, "Returns the set of frozen cells that one night makes the frozen cells of now; of several the least one, as a number without sign; 0 if there is none, too.");
        for (String window : new String[] {"W88", "W88b02b12s000s003", "W77b01b12s100", "W58b02b11s391", "W86b31"}) {
            for (int rule = 1; rule <= 2; rule++) {
                for (long set = 1L; set != 0L; set <<= 9) {
                    comesFrom(window + "r" + rule, set * 0x5DEECE66DL);
                }
            }
        }
    }

    private static void comesFrom(String text, long sets) {
        int count = (text.charAt(1) - '0') * (text.charAt(2) - '0');
        long set = count == 64 ? sets : sets & (1L << count) - 1L;
        long then = frozen(text, set).coming(1);
        PaneFrost x = frozen(text, then);
        long least = x.before();
        check.same("what comes from before of " + text, frozen(text, least).coming(1), then);
        check.same("no more than what was", Long.compareUnsigned(least, set) <= 0, true);
        check.same("there is one", x.befores() >= 0, true);
        check.same("if alone, the same", x.befores() > 0 || least == set, true);
    }

    private static void beforeWithoutSign() {
        check.sentence(22, "of several the least one, as a number without sign");
        check.same("of all sets", alone(1).before(), 0L);
        PaneFrost either = alone(1, 4 * 61 + 1, 4 * 62 + 1);
        either.flip(62);
        check.same("without the highest cell", either.before(), 1L << 61);
        check.same("of so many", either.befores(), 62);
        PaneFrost forced = alone(1, 4 * 62 + 1);
        forced.flip(62);
        check.same("with the highest cell", forced.before(), Long.MIN_VALUE);
        PaneFrost kept = alone(2);
        kept.flip(63);
        check.same("only the highest cell", kept.before(), Long.MIN_VALUE);
        kept.flip(0);
        check.same("and the lowest", kept.before(), Long.MIN_VALUE | 1L);
        PaneFrost all = alone(2);
        for (int k = 0; k < 64; k++) {
            all.flip(k);
        }
        check.same("all cells", all.before(), -1L);
        PaneFrost low = alone(1, 4 * 0 + 1, 4 * 1 + 1);
        low.flip(1);
        check.same("the lower of two", low.before(), 1L);
    }

    private static void beforeOfNone() {
        check.sentence(22, "0 if there is none, too.");
        PaneFrost x = alone(1);
        x.flip(0);
        check.same("of a cell alone", x.before(), 0L);
        check.same("there is none", x.befores(), NONE);
        for (String text : new String[] {"W22f00r1", "W22b02b12f03r1", "W22b01r1"}) {
            check.same("befores of " + text, Looks.loaded(text).befores(), NONE);
            check.same("before of " + text, Looks.loaded(text).before(), 0L);
        }
        check.same("a clear window of some", Looks.loaded("W22r1").befores(), 2);
        check.same("comes from a clear one", Looks.loaded("W22r1").before(), 0L);
    }

    // ---- promise 23

    private static void freezesIn() {
        check.sentence(23, "- `k`: cell");
        PaneFrost x = Looks.loaded("W28f00s002s012s022s032s042s052s062s072");
        check.same("the least", x.freezesIn(0), 0);
        check.same("the greatest", x.freezesIn(15), NONE);
        check.sentence(23, "Returns behind how many nights it is frozen for the first time, 0 if it is now, up to 100; NONE if it is not by then.");
        for (int k = 0; k < 8; k++) {
            check.same("along a row", x.freezesIn(k), k);
        }
        PaneFrost way = Looks.loaded("W88f00");
        Looks.windUp(way);
        for (int r = 0; r < 8; r++) {
            for (int c = 0; c < 8; c++) {
                check.same("along the longest way", way.freezesIn(8 * r + c), 8 * r + (r % 2 == 0 ? c : 7 - c));
            }
        }
        check.same("never in a clear window", new PaneFrost().freezesIn(0), NONE);
        check.same("never by an even cold", Looks.loaded("W22b12f00s002s012").freezesIn(1), NONE);
        check.same("by ice", Looks.loaded("W22b01").freezesIn(1), 1);
        for (int k = 0; k < 64; k++) {
            check.same("now", Looks.full(8, 8).freezesIn(k), 0);
        }
    }

    private static void freezesFirst() {
        check.sentence(23, "Tells when a cell freezes first.");
        PaneFrost pair = Looks.loaded("W22f00s002s012r1");
        check.same("now, and again", pair.freezesIn(0), 0);
        check.same("behind each second night", pair.freezesIn(1), 1);
        pair.nights(1);
        check.same("not now", pair.freezesIn(0), 1);
        check.same("now", pair.freezesIn(1), 0);
        for (String text : WINDOWS) {
            PaneFrost x = Looks.loaded(text);
            int count = x.about(0) * x.about(1);
            for (int k = 0; k < count; k++) {
                check.same("freezesIn(" + k + ") of " + text, x.freezesIn(k), firstNight(text, k));
            }
        }
    }

    private static int firstNight(String text, int k) {
        PaneFrost x = Looks.loaded(text);
        for (int n = 0; n <= 100; n++) {
            if (x.cell(k, 0) == 1) {
                return n;
            }
            x.nights(1);
        }
        return NONE;
    }

    private static void freezesThrows() {
        check.sentence(23, "Throws `IndexOutOfBoundsException` if there is no such cell");
        PaneFrost x = Looks.loaded("W28f00");
        check.refused(x, "-1", INDEX, () -> x.freezesIn(-1));
        check.refused(x, "16", INDEX, () -> x.freezesIn(16));
        check.refused(x, "the greatest", INDEX, () -> x.freezesIn(Integer.MAX_VALUE));
    }

    // ---- promise 24

    /** One way from the cell 56, which is frozen, back to the cell 0. */
    private static PaneFrost wayBack() {
        PaneFrost x = Looks.loaded("W88f56");
        Looks.windUp(x);
        return x;
    }

    private static void keepsNights() {
        check.sentence(24, "- `n`: 1 to 20");
        PaneFrost x = wayBack();
        check.same("freezes behind 20 nights", x.freezesIn(44), 20);
        check.same("clear for 19 anyway", x.keeps(44, 19), 1);
        check.same("for 20 by a scratch on the way", x.keeps(44, 20), 4 * 40 + 1);
        check.same("freezes behind 21 nights", x.freezesIn(45), 21);
        check.same("clear for 20 anyway", x.keeps(45, 20), 1);
        check.same("freezes behind a night", x.freezesIn(57), 1);
        check.same("for one by the scratch beside", x.keeps(57, 1), 4 * 56 + 1);
        check.same("clear for one anyway", x.keeps(58, 1), 1);
        check.same("for two by a scratch", x.keeps(58, 2), 4 * 56 + 1);
    }

    private static void keepsEachNight() {
        check.sentence(24, "with a scratch at which the cell k would be clear behind each of 1 to n nights");
        check.same("frozen now, clear then", Looks.loaded("W33f04r1").keeps(4, 1), 1);
        check.same("frozen now, and again behind two", Looks.loaded("W22f00s002s012r1").keeps(0, 1), 1);
        check.same("frozen behind one, clear behind two", Looks.loaded("W23f01s002s012s022r1").keeps(2, 2), 4 * 1 + 1);
        check.same("clear behind one, frozen behind two", Looks.loaded("W24f03s002s012s022s032r1").keeps(1, 2), 4 * 1 + 1);
        check.same("clear behind one", Looks.loaded("W24f03s002s012s022s032r1").keeps(1, 1), 1);
        check.same("a frozen one by the rule 0", Looks.loaded("W33f04").keeps(4, 1), NONE);
        check.same("a frozen one by the rule 2", Looks.loaded("W33f04r2").keeps(4, 20), NONE);
        check.same("one that thaws by the rule 2", Looks.loaded("W22f00f01s002s012r2").keeps(0, 1), 9);
    }

    private static void keepsTheLeast() {
        check.sentence(24, "Returns 4 * (a cell) + (a direction): the least such number");
        check.same("0", Looks.loaded("W22b02").keeps(3, 20), 0);
        check.same("1", Looks.loaded("W22").keeps(3, 20), 1);
        check.same("2", Looks.loaded("W22s001").keeps(3, 20), 2);
        check.same("3", Looks.loaded("W22b12s001s002").keeps(3, 20), 3);
        check.same("the lower cell's, not the higher's", Looks.loaded("W33f04s011").keeps(7, 1), 4 * 4 + 2);
        check.same("the greatest", alone(0, 4 * 62 + 1).keeps(0, 20), 4 * 62 + 1);
        check.same("one above another", alone(0, 4 * 55 + 2).keeps(0, 20), 4 * 55 + 2);
        PaneFrost last = alone(0, 4 * 62 + 1);
        last.flip(63);
        check.same("the greatest, needed", last.keeps(62, 1), 4 * 62 + 1);
        PaneFrost right = Looks.loaded("W23b12f02s001s002s012s022");
        check.same("over a joined side, from the lower cell", right.keeps(0, 1), 4 * 0 + 3);
        PaneFrost down = Looks.loaded("W32b02f04s001s002s012");
        check.same("over the top, from the lower cell", down.keeps(0, 1), 0);
    }

    private static void keepsWhereNoScratchIs() {
        check.sentence(24, "of those between which and its neighbour there is no scratch");
        check.same("none of its own", Looks.loaded("W22s001").keeps(0, 20), 2);
        check.same("none from the other cell", Looks.loaded("W22s013").keeps(0, 20), 2);
        check.same("no neighbour over a dry side", Looks.loaded("W22").keeps(0, 20), 1);
        check.same("no neighbour over an icy side", Looks.loaded("W33b01").keeps(4, 1), 1);
        check.same("ice is not kept off", Looks.loaded("W22b31").keeps(0, 1), NONE);
        check.same("not polished to help", Looks.loaded("W22f00f03s001s021r0").keeps(1, 1), 4 * 1 + 2);
        check.same("a scratch that is hidden is none of theirs", Looks.loaded("W22b02s000b00").keeps(0, 20), 1);
        check.same("nor tried when joined", Looks.loaded("W22b02s000b00b22").keeps(0, 20), 1);
        PaneFrost x = Looks.loaded("W33f04");
        x.keeps(7, 20);
        check.same("no scratch is left", x.about(3), 0);
    }

    private static void keepsNone() {
        check.sentence(24, "NONE if there is none.");
        check.same("all scratches are made", alone(0).keeps(0, 1), NONE);
        for (int rows = 2; rows <= 8; rows++) {
            for (int cells = 2; cells <= 8; cells++) {
                PaneFrost x = Looks.sized(rows, cells);
                Looks.scratchAll(x, rows, cells);
                check.same("all of " + rows + " by " + cells, x.keeps(rows * cells - 1, 20), NONE);
            }
        }
        check.same("two ways to it", Looks.loaded("W33f01f03f05").keeps(4, 1), 4 * 1 + 2);
        check.same("two are too many", Looks.loaded("W33f00f08f03").keeps(6, 2), NONE);
        check.same("ice on three sides", Looks.loaded("W22b01b11b21b31f01").keeps(0, 1), 1);
    }

    private static void keepsByTrying() {
        check.sentence(24, "Finds a scratch that keeps a cell clear.");
        for (String text : WINDOWS) {
            PaneFrost x = Looks.loaded(text);
            int count = x.about(0) * x.about(1);
            for (int k = 0; k < count; k++) {
                for (int n : new int[] {1, 2, 5, 20}) {
                    check.same("keeps(" + k + ", " + n + ") of " + text, x.keeps(k, n), tried(text, count, k, n));
                }
            }
        }
    }

    private static int tried(String text, int count, int k, int n) {
        for (int number = 0; number < 4 * count; number++) {
            PaneFrost x = Looks.loaded(text);
            if (x.neighbour(number / 4, number % 4) == NONE || x.scratch(number / 4, number % 4) == 0) {
                continue;
            }
            int night = 0;
            while (night < n && (x.coming(night + 1) >>> k & 1L) == 0L) {
                night++;
            }
            if (night == n) {
                return number;
            }
        }
        return NONE;
    }

    private static void keepsThrows() {
        PaneFrost x = Looks.loaded("W28f00");
        check.sentence(24, "- `k`: cell");
        check.same("the least", Looks.loaded("W28").keeps(0, 1), 1);
        check.same("the greatest", Looks.loaded("W28").keeps(15, 1), 1);
        check.sentence(24, "Throws `IndexOutOfBoundsException` if there is no such cell");
        for (int n : new int[] {0, 1, 20, 21}) {
            check.refused(x, "-1", INDEX, () -> x.keeps(-1, n));
            check.refused(x, "16", INDEX, () -> x.keeps(16, n));
        }
        check.sentence(24, "Throws `IllegalArgumentException` if n is out of range");
        check.refused(x, "0", ARGUMENT, () -> x.keeps(15, 0));
        check.refused(x, "21", ARGUMENT, () -> x.keeps(15, 21));
        check.refused(x, "-1", ARGUMENT, () -> x.keeps(0, -1));
    }
}
