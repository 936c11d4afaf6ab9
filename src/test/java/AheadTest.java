/** Promises 19 to 24. */
public final class AheadTest {
    private static final Class<IllegalArgumentException> ARGUMENT = IllegalArgumentException.class;
    private static final Class<IndexOutOfBoundsException> INDEX = IndexOutOfBoundsException.class;
    private static final Class<IllegalStateException> STATE = IllegalStateException.class;
    private static final Check check = new Check("AheadTest");

    public static void main(String[] args) {
        coming();
        again();
        againLate();
        befores();
        before();
        beforeTellsTheLeast();
        freezesIn();
        keeps();
        keepsOverSides();
        refused();
        check.close();
    }

    private static void coming() {
        PaneFrost x = Looks.loaded("W45f05f06f10b01r2");
        long before = x.frozen();
        long[] due = new long[4];
        int[] counts = {1, 7, 60, 120};
        for (int i = 0; i < 4; i++) {
            due[i] = x.coming(counts[i]);
        }
        check.same("200", x.coming(200), Looks.loaded("W45f05f06f10b01r2n60n60n60n20").frozen());
        check.same("nothing changed", x.frozen(), before);
        check.same("no night went by", x.about(5), 0);
        x.nights(1);
        check.same("1", x.frozen(), due[0]);
        x.nights(6);
        check.same("7", x.frozen(), due[1]);
        x.nights(53);
        check.same("60", x.frozen(), due[2]);
        x.nights(60);
        check.same("120", x.frozen(), due[3]);
        check.same("by the rule 0", Looks.loaded("W33f04").coming(200), Looks.set(1, 3, 4, 5, 7));
        for (int n : new int[] {0, 201, -1, Integer.MIN_VALUE, Integer.MAX_VALUE}) {
            check.refused(x, "coming(" + n + ")", ARGUMENT, () -> x.coming(n));
        }
    }

    private static void again() {
        comesAgain("W44", 0, 1);
        comesAgain("W33f04", 1, 1);
        comesAgain("W33f04r1", 2, 1);
        comesAgain("W22f00r1", 2, 1);
        comesAgain("W23f00r2b01", againByHand("W23f00r2b01"));
        comesAgain("W35f07r1", againByHand("W35f07r1"));
        comesAgain("W55f12r2b12", againByHand("W55f12r2b12"));
        PaneFrost x = Looks.loaded("W44f05r1");
        for (int what : new int[] {-1, 2, Integer.MIN_VALUE, Integer.MAX_VALUE}) {
            check.refused(x, "again(" + what + ")", ARGUMENT, () -> x.again(what));
        }
        x.again(0);
        check.same("nothing changed", x.frozen(), 32L);
        check.same("no nights", x.about(5), 0);
    }

    private static void comesAgain(String text, int... due) {
        PaneFrost x = Looks.loaded(text);
        check.same("again(0) of " + text, x.again(0), due[0]);
        check.same("again(1) of " + text, x.again(1), due[1]);
    }

    private static int[] againByHand(String text) {
        long[] seen = Looks.ahead(text, 300);
        for (int j = 1; j <= 300; j++) {
            for (int i = 0; i < j; i++) {
                if (seen[i] == seen[j]) {
                    return new int[] {i, j - i};
                }
            }
        }
        return new int[] {PaneFrost.NONE, PaneFrost.NONE};
    }

    private static void againLate() {
        comesAgain("W77r2b32b31s063s041f32f48s350s411s322s403f27s190s393", 0, 300);
        comesAgain("W88r2b02b00f56f26s600s422s142f12f55s460s591", againByHand("W88r2b02b00f56f26s600s422s142f12f55s460s591"));
        comesAgain("W56r1b20b11f16f03s182s100s190f27s083f08", 8, 292);
        comesAgain("W65r2b11b10s250f16s222s282s062s020s161", 8, 292);
        comesAgain("W84r1b11b01f23s020s072s220s170s051s071", PaneFrost.NONE, PaneFrost.NONE);
        comesAgain("W66r1b21b12s241s321s290s112", PaneFrost.NONE, PaneFrost.NONE);
        int late = 0;
        int never = 0;
        for (int seed = 1; seed <= 60; seed++) {
            String text = "W" + (5 + seed % 4) + (4 + seed % 5) + "f" + (10 + seed % 7) + "f1" + seed % 10 + "s1"
                    + seed % 10 + seed % 4 + "s0" + seed % 9 + "2b0" + seed % 3 + "b1" + seed / 3 % 3 + "r"
                    + (1 + seed % 2);
            int[] due = againByHand(text);
            comesAgain(text, due);
            never += due[0] == PaneFrost.NONE ? 1 : 0;
            late += due[0] + due[1] > 100 ? 1 : 0;
        }
        check.same("some never come by then", never > 0, true);
        check.same("some come late", late > 0, true);
    }

    private static void befores() {
        countsBefore("W33r1", 3);
        countsBefore("W22r1", 2);
        countsBefore("W44r2", 4);
        countsBefore("W55r2", 2);
        countsBefore("W88r1", 8);
        countsBefore("W88r2", 0);
        countsBefore("W22f00r1", PaneFrost.NONE);
        countsBefore("W22b12b02r1", 4);
        countsBefore("W22b12b02f00r1", PaneFrost.NONE);
        countsBefore("W22b12b02f00r2", 0);
        countsBefore("W22f01f02r1", 2);
        countsBefore("W22b01r1f00f01", 2);
        countsBefore("W22b01r1f00", PaneFrost.NONE);
        PaneFrost x = Looks.loaded("W22f00");
        check.refused(x, "befores with the rule 0", STATE, () -> x.befores());
        x.rule(1);
        x.rule(0);
        check.refused(x, "befores with the rule 0 again", STATE, () -> x.befores());
    }

    private static void countsBefore(String text, int due) {
        PaneFrost x = Looks.loaded(text);
        String looks = Looks.of(x);
        check.same("befores of " + text, x.befores(), due);
        check.same("befores of " + text + " again", x.befores(), due);
        check.same("nothing changed", Looks.of(x), looks);
    }

    private static void before() {
        check.same("of none", Looks.loaded("W22f00r1").before(), 0L);
        check.same("of clear", Looks.loaded("W22r1").before(), 0L);
        check.same("of two", Looks.loaded("W22f01f02r1").before(), 1L);
        check.same("of the others", Looks.loaded("W22f00f03r1").before(), 2L);
        check.same("of itself", Looks.loaded("W22b12b02f00r2").before(), 1L);
        check.same("of ice", Looks.loaded("W22b01r1f00f01").before(), 0L);
        PaneFrost x = Looks.loaded("W22f00");
        check.refused(x, "before with the rule 0", STATE, () -> x.before());
    }

    /** On small windows, every set is tried. */
    private static void beforeTellsTheLeast() {
        String[] windows = {"W23", "W32b02", "W33b12", "W24b01b11s001", "W33b02b12s003s041", "W22b12s003", "W33b31s012"};
        for (String window : windows) {
            for (int rule = 1; rule <= 2; rule++) {
                int[] lines = {window.charAt(1) - '0', window.charAt(2) - '0'};
                int sets = 1 << lines[0] * lines[1];
                long[] after = new long[sets];
                PaneFrost x = Looks.loaded(window + "r" + rule);
                for (int set = 0; set < sets; set++) {
                    setFrozen(x, set);
                    after[set] = x.coming(1);
                    if (set % 8 == 7) {
                        x = Looks.loaded(window + "r" + rule);
                    }
                }
                compareBefores(window + "r" + rule, after);
            }
        }
    }

    private static void setFrozen(PaneFrost x, long set) {
        long other = x.frozen() ^ set;
        for (int k = 0; k < 64; k++) {
            if ((other >>> k & 1L) != 0L) {
                x.flip(k);
            }
        }
    }

    private static void compareBefores(String text, long[] after) {
        for (int set = 0; set < after.length; set += 3) {
            int count = 0;
            long least = 0L;
            for (int from = after.length - 1; from >= 0; from--) {
                if (after[from] == set) {
                    count++;
                    least = from;
                }
            }
            PaneFrost x = Looks.loaded(text);
            setFrozen(x, set);
            int power = count == 0 ? PaneFrost.NONE : Integer.numberOfTrailingZeros(count);
            check.same("befores of " + text + " and " + set, x.befores(), power);
            check.same("before of " + text + " and " + set, x.before(), least);
        }
    }

    private static void freezesIn() {
        PaneFrost x = Looks.loaded("W33f04");
        check.same("now", x.freezesIn(4), 0);
        check.same("behind one", x.freezesIn(1), 1);
        check.same("never", x.freezesIn(0), PaneFrost.NONE);
        PaneFrost line = Looks.loaded("W28f00s002s012s022s032s042s052s062s072");
        for (int k = 0; k < 8; k++) {
            check.same("along a line " + k, line.freezesIn(k), k);
        }
        check.same("nothing changed", line.frozen(), 1L);
        check.same("not over scratches", line.freezesIn(8), PaneFrost.NONE);
        PaneFrost wound = Looks.loaded("W88f00");
        Looks.windUp(wound);
        check.same("the end of the longest way", wound.freezesIn(56), 63);
        check.same("not far before", wound.freezesIn(63), 56);
        int late = 0;
        for (int seed = 0; seed < 1500 && late < 5; seed++) {
            PaneFrost y = wild(seed);
            late += comparesFreezing(y, seed) ? 1 : 0;
        }
        check.same("some freeze late", late > 0, true);
    }

    private static PaneFrost wild(int seed) {
        PaneFrost x = Looks.loaded("W88f" + (10 + seed % 50) + "r" + (1 + seed % 2));
        for (int i = 0; i < 40; i++) {
            int k = (seed * 31 + i * i * 7 + i * 5) % 64;
            int d = (seed + i) % 4;
            if (x.neighbour(k, d) != PaneFrost.NONE) {
                x.scratch(k, d);
            }
        }
        return x;
    }

    private static boolean comparesFreezing(PaneFrost x, int seed) {
        int k = seed * 13 % 64;
        int got = x.freezesIn(k);
        int due = PaneFrost.NONE;
        for (int n = 0; n <= 100 && due == PaneFrost.NONE; n++) {
            long set = n == 0 ? x.frozen() : x.coming(n);
            due = (set >>> k & 1L) != 0L ? n : PaneFrost.NONE;
        }
        check.same("freezesIn(" + k + ") of wild " + seed, got, due);
        return due > 8;
    }

    private static void keeps() {
        check.same("any scratch of a clear window", Looks.loaded("W33").keeps(8, 20), 1);
        PaneFrost x = Looks.loaded("W33f04");
        check.same("the scratch above the middle", x.keeps(1, 1), 4 * 1 + 2);
        check.same("the scratch on its left", x.keeps(3, 20), 4 * 3 + 1);
        check.same("the scratch on its right", x.keeps(5, 1), 4 * 4 + 1);
        check.same("the scratch below it", x.keeps(7, 1), 4 * 4 + 2);
        check.same("a frozen one by the rule 0", x.keeps(4, 1), PaneFrost.NONE);
        check.same("nothing changed", x.about(3), 0);
        check.same("frozen as before", x.frozen(), 16L);
        x.scratch(1, 2);
        check.same("no need, and any other", x.keeps(1, 1), 1);
        PaneFrost none = Looks.loaded("W33b01b11b21b31");
        check.same("ice is on every side", none.keeps(1, 1), PaneFrost.NONE);
        PaneFrost now = Looks.loaded("W33f04r1");
        check.same("now does not count", now.keeps(4, 1), 1);
        PaneFrost spent = Looks.loaded("W22s001s002s033s030");
        check.same("all are made", spent.about(3), 4);
        check.same("so there is none", spent.keeps(0, 1), PaneFrost.NONE);
        PaneFrost nights = Looks.loaded("W25f00s002s012s022s032s042");
        check.same("behind one", nights.keeps(3, 2), 1);
        check.same("cut before the third", nights.keeps(3, 3), 1);
        check.same("cut for many", nights.keeps(3, 20), 1);
    }

    private static void keepsOverSides() {
        PaneFrost x = Looks.loaded("W22f00b12s001");
        check.same("over the joined side", x.keeps(1, 1), 3);
        check.same("the scratch from the other cell", Looks.loaded("W22f01b12s001s022").keeps(0, 1), 3);
        PaneFrost y = Looks.loaded("W33f06b02");
        check.same("over the top", y.keeps(0, 1), 0);
        y.border(0, 0);
        check.same("apart", y.keeps(0, 1), 1);
        PaneFrost twice = Looks.loaded("W22f00b12");
        check.same("twice is even, a scratch makes it odd", twice.keeps(1, 1), 2);
        check.same("both nights", Looks.loaded("W22f00b12s002s012s021s023").keeps(1, 2), PaneFrost.NONE);
    }

    private static void refused() {
        for (int k : new int[] {-1, 12, 64, Integer.MIN_VALUE, Integer.MAX_VALUE}) {
            PaneFrost x = Looks.loaded("W34f01");
            check.refused(x, "freezesIn(" + k + ")", INDEX, () -> x.freezesIn(k));
            check.refused(x, "keeps(" + k + ", 1)", INDEX, () -> x.keeps(k, 1));
            check.refused(x, "keeps(" + k + ", 0)", INDEX, () -> x.keeps(k, 0));
        }
        for (int n : new int[] {0, 21, -1, Integer.MIN_VALUE, Integer.MAX_VALUE}) {
            PaneFrost x = Looks.loaded("W34f01");
            check.refused(x, "keeps(0, " + n + ")", ARGUMENT, () -> x.keeps(0, n));
        }
    }
}
