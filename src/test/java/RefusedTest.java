import java.util.LinkedHashMap;
import java.util.Map;

/** Which calls are refused, by which exception, and that they change nothing; and the questions, which change nothing, too. */
public final class RefusedTest {
    private static final Class<IllegalArgumentException> ARGUMENT = IllegalArgumentException.class;
    private static final Class<IndexOutOfBoundsException> INDEX = IndexOutOfBoundsException.class;
    private static final Class<IllegalStateException> STATE = IllegalStateException.class;
    private static final String FULL_TEXT = "W34b02s051b12s003r2f00f05n02f07"
        + "f01t100b11b12r1n60".repeat(4) + "f10s062r2s032t000";
    private static final Check check = new Check("RefusedTest");

    private interface On {
        void run(PaneFrost x);
    }

    private interface Made {
        PaneFrost make();
    }

    private final Map<String, On> calls = new LinkedHashMap<>();

    public static void main(String[] args) {
        noCell();
        noSlot();
        noArgument();
        noState();
        theFirstNamed();
        asked();
        check.close();
    }

    // ---- states to refuse in

    /** A full text, 14 states remembered, the slot 0 used, joined sides with scratches over them. */
    private static PaneFrost rich() {
        PaneFrost x = Looks.loaded(FULL_TEXT);
        x.save(0);
        for (int k = 0; k < 7; k++) {
            x.flip(k);
            x.scratch(k, k % 4);
        }
        x.nights(1);
        return x;
    }

    /** A text that is no window, one state remembered, both slots used. */
    private static PaneFrost poor() {
        PaneFrost x = Looks.loaded("W34b02b12s003f11");
        x.append('x');
        x.save(1);
        x.rule(2);
        x.save(0);
        return x;
    }

    private RefusedTest add(String name, On call) {
        calls.put(name, call);
        return this;
    }

    private void allRefused(Class<? extends RuntimeException> due) {
        for (Map.Entry<String, On> call : calls.entrySet()) {
            refused(call.getKey(), due, RefusedTest::rich, call.getValue());
            refused(call.getKey(), due, RefusedTest::poor, call.getValue());
        }
    }

    private static void refused(String name, Class<? extends RuntimeException> due, Made made, On call) {
        PaneFrost x = made.make();
        check.throwing(name, due, () -> call.run(x));
        check.same(name + " leaves", Looks.deep(x), Looks.deep(made.make()));
    }

    // ---- which is thrown

    private static void noCell() {
        check.sentence(0, "IndexOutOfBoundsException means that a cell does not exist, or that a save slot is not 0 or 1.");
        for (int k : new int[] {-1, 12, 15, 63, 64, Integer.MIN_VALUE, Integer.MAX_VALUE}) {
            RefusedTest all = new RefusedTest();
            all.add("cell(" + k + ", 0)", x -> x.cell(k, 0));
            all.add("neighbour(" + k + ", 0)", x -> x.neighbour(k, 0));
            all.add("flip(" + k + ")", x -> x.flip(k));
            all.add("scratch(" + k + ", 1)", x -> x.scratch(k, 1));
            all.add("breathe(" + k + ", 1)", x -> x.breathe(k, 1));
            all.add("freezesIn(" + k + ")", x -> x.freezesIn(k));
            all.add("keeps(" + k + ", 1)", x -> x.keeps(k, 1));
            all.allRefused(INDEX);
        }
    }

    private static void noSlot() {
        check.sentence(0, "or that a save slot is not 0 or 1.");
        for (int slot : new int[] {-1, 2, Integer.MIN_VALUE, Integer.MAX_VALUE}) {
            RefusedTest all = new RefusedTest();
            all.add("save(" + slot + ")", x -> x.save(slot));
            all.add("restore(" + slot + ")", x -> x.restore(slot));
            all.allRefused(INDEX);
        }
    }

    private static void noArgument() {
        check.sentence(0, "IllegalArgumentException means that another argument is out of its range.");
        tooSmall(Integer.MIN_VALUE);
        tooSmall(-1);
        tooSmall(0, 1);
        tooLarge(0);
        tooLarge(Integer.MAX_VALUE);
    }

    private static void tooSmall(int v) {
        RefusedTest all = new RefusedTest();
        all.add("append(" + v + ")", x -> x.append(v));
        all.add("about(" + v + ")", x -> x.about(v));
        all.add("cell(11, " + v + ")", x -> x.cell(11, v));
        all.add("neighbour(11, " + v + ")", x -> x.neighbour(11, v));
        all.add("side(" + v + ")", x -> x.side(v));
        all.add("scratch(11, " + v + ")", x -> x.scratch(11, v));
        all.add("border(" + v + ", 0)", x -> x.border(v, 0));
        all.add("border(0, " + v + ")", x -> x.border(0, v));
        all.add("rule(" + v + ")", x -> x.rule(v));
        all.add("breathe(11, " + v + ")", x -> x.breathe(11, v));
        all.add("again(" + v + ")", x -> x.again(v));
        all.add("runScript(1, " + v + ")", x -> x.runScript(1, v));
        all.allRefused(ARGUMENT);
        tooSmall(v, v);
    }

    /** The least counts are 1, those of rows and cells 2. */
    private static void tooSmall(int v, int lines) {
        RefusedTest all = new RefusedTest();
        all.add("size(" + lines + ", 2)", x -> x.size(lines, 2));
        all.add("size(8, " + lines + ")", x -> x.size(8, lines));
        all.add("nights(" + v + ")", x -> x.nights(v));
        all.add("coming(" + v + ")", x -> x.coming(v));
        all.add("keeps(11, " + v + ")", x -> x.keeps(11, v));
        all.add("runScript(" + v + ", 0)", x -> x.runScript(v, 0L));
        all.add("simulate(7, " + v + ")", x -> x.simulate(7L, v));
        all.allRefused(ARGUMENT);
    }

    /** The least numbers that are too large, or a larger one. */
    private static void tooLarge(int least) {
        RefusedTest all = new RefusedTest();
        all.add("append " + least, x -> x.append(Math.max(least, 256)));
        all.add("about " + least, x -> x.about(Math.max(least, 8)));
        all.add("cell " + least, x -> x.cell(11, Math.max(least, 4)));
        all.add("neighbour " + least, x -> x.neighbour(11, Math.max(least, 4)));
        all.add("side " + least, x -> x.side(Math.max(least, 4)));
        all.add("size of rows " + least, x -> x.size(Math.max(least, 9), 8));
        all.add("size of cells " + least, x -> x.size(2, Math.max(least, 9)));
        all.add("scratch " + least, x -> x.scratch(11, Math.max(least, 4)));
        all.add("border of side " + least, x -> x.border(Math.max(least, 4), 2));
        all.add("border of kind " + least, x -> x.border(3, Math.max(least, 3)));
        all.add("rule " + least, x -> x.rule(Math.max(least, 3)));
        all.add("breathe " + least, x -> x.breathe(11, Math.max(least, 10)));
        all.add("nights " + least, x -> x.nights(Math.max(least, 61)));
        all.add("coming " + least, x -> x.coming(Math.max(least, 201)));
        all.add("again " + least, x -> x.again(Math.max(least, 2)));
        all.add("keeps " + least, x -> x.keeps(11, Math.max(least, 21)));
        all.add("runScript of n " + least, x -> x.runScript(Math.max(least, 4), 1000L));
        all.add("runScript of 1 " + least, x -> x.runScript(1, Math.max(least, 10_000)));
        all.add("runScript of 2 " + least, x -> x.runScript(2, Math.max(least, 100_000_000)));
        all.add("runScript of 3 " + least, x -> x.runScript(3, Math.max(least, 1_000_000_000_000L)));
        all.add("simulate " + least, x -> x.simulate(-7L, Math.max(least, 61)));
        all.allRefused(ARGUMENT);
    }

    private static void noState() {
        check.sentence(0, "IllegalStateException means what the method says.");
        refused("append to a full text", STATE, RefusedTest::rich, x -> x.append('0'));
        refused("load of no window", STATE, RefusedTest::poor, x -> x.load());
        refused("scratch over a dry side", STATE, () -> bordered(0), x -> x.scratch(0, 3));
        refused("scratch over an icy side", STATE, () -> bordered(1), x -> x.scratch(11, 1));
        refused("undo of nothing", STATE, RefusedTest::loaded, x -> x.undo());
        refused("befores by the rule 0", STATE, RefusedTest::loaded, x -> x.befores());
        refused("before by the rule 0", STATE, RefusedTest::loaded, x -> x.before());
        refused("restore of an empty slot", STATE, RefusedTest::rich, x -> x.restore(1));
    }

    private static PaneFrost bordered(int kind) {
        PaneFrost x = rich();
        x.border(1, kind);
        return x;
    }

    private static PaneFrost loaded() {
        return Looks.loaded("W34f05b02s000n01");
    }

    private static void theFirstNamed() {
        check.sentence(0, "If several exceptions apply to a call, the one that its description names first is thrown.");
        refused("append of 256 to a full text", ARGUMENT, RefusedTest::rich, x -> x.append(256));
        refused("append of -1 to a full text", ARGUMENT, RefusedTest::rich, x -> x.append(-1));
        for (int k : new int[] {-1, 12}) {
            RefusedTest all = new RefusedTest();
            for (int bad : new int[] {-1, 21}) {
                all.add("cell(" + k + ", " + bad + ")", x -> x.cell(k, bad));
                all.add("neighbour(" + k + ", " + bad + ")", x -> x.neighbour(k, bad));
                all.add("scratch(" + k + ", " + bad + ")", x -> x.scratch(k, bad));
                all.add("breathe(" + k + ", " + bad + ")", x -> x.breathe(k, bad));
                all.add("keeps(" + k + ", " + bad + ")", x -> x.keeps(k, bad));
            }
            all.allRefused(INDEX);
            refused("scratch(" + k + ", 3) by a dry side", INDEX, () -> bordered(0), x -> x.scratch(k, 3));
        }
        refused("scratch(0, 4) by a dry side", ARGUMENT, () -> bordered(0), x -> x.scratch(0, 4));
        refused("scratch(11, -1) by an icy side", ARGUMENT, () -> bordered(1), x -> x.scratch(11, -1));
        for (int slot : new int[] {-1, 2}) {
            refused("restore(" + slot + ") of empty slots", INDEX, RefusedTest::loaded, x -> x.restore(slot));
        }
    }

    // ---- what changes nothing

    private static void asked() {
        check.sentence(0, "what would be; these and all following methods up to the save slots change nothing.");
        RefusedTest all = new RefusedTest();
        all.add("errorPosition()", x -> x.errorPosition());
        all.add("about", x -> eachTo(7, x::about));
        all.add("frozen()", x -> x.frozen());
        all.add("cell", x -> eachTo(3, what -> x.cell(11, what)));
        all.add("neighbour", x -> eachTo(3, d -> x.neighbour(0, d)));
        all.add("side", x -> eachTo(3, x::side));
        all.add("coming(1)", x -> x.coming(1));
        all.add("coming(200)", x -> x.coming(200));
        all.add("again(0)", x -> x.again(0));
        all.add("again(1)", x -> x.again(1));
        all.add("befores()", x -> x.befores());
        all.add("before()", x -> x.before());
        all.add("freezesIn", x -> eachTo(11, x::freezesIn));
        all.add("keeps", x -> eachTo(11, k -> x.keeps(k, 1 + k)));
        all.add("keeps(0, 20)", x -> x.keeps(0, 20));
        all.add("runScript of changes", x -> x.runScript(3, 101020523022L));
        all.add("runScript of other changes", x -> x.runScript(3, 400150606019L));
        all.add("runScript of questions", x -> x.runScript(3, 710082009001L));
        all.add("runScript that fails", x -> x.runScript(2, 10109999L));
        all.add("simulate", x -> eachTo(11, m -> x.simulate(m * 1_000_003L, 1 + 5 * m)));
        for (int rule = 1; rule <= 2; rule++) {
            int last = rule;
            all.leave(() -> ruled(last));
        }
        all.calls.remove("befores()");
        all.calls.remove("before()");
        all.leave(() -> ruled(0));
    }

    private static PaneFrost ruled(int rule) {
        PaneFrost x = rich();
        x.rule(rule);
        return x;
    }

    private static void eachTo(int last, java.util.function.IntUnaryOperator question) {
        for (int i = 0; i <= last; i++) {
            question.applyAsInt(i);
        }
    }

    private void leave(Made made) {
        String due = Looks.deep(made.make());
        for (Map.Entry<String, On> call : calls.entrySet()) {
            PaneFrost x = made.make();
            call.getValue().run(x);
            check.same(call.getKey() + " leaves", Looks.deep(x), due);
        }
    }
}
