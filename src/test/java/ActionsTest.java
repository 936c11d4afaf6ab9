/** Promises 11 to 18. */
public final class ActionsTest {
    private static final Class<IllegalArgumentException> ARGUMENT = IllegalArgumentException.class;
    private static final Class<IndexOutOfBoundsException> INDEX = IndexOutOfBoundsException.class;
    private static final Class<IllegalStateException> STATE = IllegalStateException.class;
    private static final int[] NO_CELLS = {-1, 12, 64, Integer.MIN_VALUE, Integer.MAX_VALUE};
    private static final Check check = new Check("ActionsTest");

    public static void main(String[] args) {
        size();
        flip();
        scratch();
        scratchRefused();
        border();
        rule();
        breathe();
        breatheOver();
        nightsByRules();
        nightsOverSides();
        nightsRefused();
        undoEachAction();
        undoForgets();
        refusedIsNoAction();
        check.close();
    }

    private static void size() {
        PaneFrost x = Looks.loaded("W33f00f04s041b02b11r2n05");
        check.same("size(2, 8)", x.size(2, 8), 16);
        check.same("another window", Looks.of(x), "2 8 0 0 2 5 0 0 0 0 0 0 0 -1");
        check.same("size(8, 8)", x.size(8, 8), 64);
        check.same("size(2, 2)", x.size(2, 2), 4);
        x.scratch(0, 1);
        x.flip(1);
        x.border(0, 2);
        check.same("the same size", x.size(2, 2), 4);
        check.same("is new, too", Looks.of(x), "2 2 0 0 2 5 0 0 0 0 0 0 0 -1");
        check.same("no scratch", x.cell(0, 3), 0);
        x.scratch(0, 2);
        x.size(2, 2);
        check.same("no scratch below", x.about(3), 0);
        x.undo();
        x.undo();
        for (int n : new int[] {1, 9, 0, -1, Integer.MIN_VALUE, Integer.MAX_VALUE}) {
            check.refused(x, "size(" + n + ", 4)", ARGUMENT, () -> x.size(n, 4));
            check.refused(x, "size(4, " + n + ")", ARGUMENT, () -> x.size(4, n));
        }
        check.same("undo", x.undo(), 6);
        check.same("the window before", x.frozen(), 2L);
        check.same("its scratch", x.cell(0, 3), 2);
        check.same("its sides", x.side(2), 2);
    }

    private static void flip() {
        PaneFrost x = Looks.loaded("W34");
        check.same("flip", x.flip(11), 1);
        check.same("frozen", x.frozen(), 0x800L);
        check.same("flip another", x.flip(0), 1);
        check.same("flip back", x.flip(11), 0);
        check.same("the other stays", x.frozen(), 1L);
        for (int k : NO_CELLS) {
            check.refused(x, "flip(" + k + ")", INDEX, () -> x.flip(k));
        }
        PaneFrost y = Looks.loaded("W88");
        check.same("flip(63)", y.flip(63), 1);
        check.same("the highest", y.frozen(), Long.MIN_VALUE);
        check.refused(y, "flip(64)", INDEX, () -> y.flip(64));
    }

    private static void scratch() {
        PaneFrost x = Looks.loaded("W34");
        check.same("scratch", x.scratch(5, 1), 1);
        check.same("seen from there", x.cell(6, 3), 8);
        check.same("polished from there", x.scratch(6, 3), 0);
        check.same("none", x.about(3), 0);
        check.same("up", x.scratch(5, 0), 1);
        check.same("seen above", x.cell(1, 3), 4);
        check.same("polished above", x.scratch(1, 2), 0);
        x.border(0, 2);
        check.same("over the side", x.scratch(2, 0), 1);
        check.same("from below", x.cell(10, 3), 4);
        x.border(0, 0);
        check.same("none of theirs", x.about(3), 0);
        x.border(2, 2);
        check.same("it stayed", x.cell(2, 3), 1);
        check.same("polished from below", x.scratch(10, 2), 0);
        check.same("none at the end", x.about(3), 0);
        PaneFrost y = Looks.loaded("W34f01f02s011");
        check.same("frozen cells stay", y.frozen(), 6L);
        check.same("two patches", y.about(6), 2);
    }

    private static void scratchRefused() {
        PaneFrost x = Looks.loaded("W34");
        check.refused(x, "over a dry side", STATE, () -> x.scratch(0, 0));
        check.refused(x, "over a dry side on the right", STATE, () -> x.scratch(3, 1));
        x.border(2, 1);
        check.refused(x, "over an icy side", STATE, () -> x.scratch(11, 2));
        for (int k : NO_CELLS) {
            check.refused(x, "scratch(" + k + ", 1)", INDEX, () -> x.scratch(k, 1));
            check.refused(x, "scratch(" + k + ", 9)", INDEX, () -> x.scratch(k, 9));
        }
        for (int d : new int[] {-1, 4, Integer.MIN_VALUE, Integer.MAX_VALUE}) {
            check.refused(x, "scratch(0, " + d + ")", ARGUMENT, () -> x.scratch(0, d));
        }
        check.same("only the border is to undo", x.undo(), 0);
    }

    private static void border() {
        PaneFrost x = new PaneFrost();
        check.same("icy", x.border(0, 1), 0);
        sides(x, 1, 0, 0, 0);
        check.same("joined", x.border(2, 2), 0);
        sides(x, 2, 0, 2, 0);
        check.same("joined again", x.border(0, 2), 2);
        sides(x, 2, 0, 2, 0);
        check.same("icy both", x.border(0, 1), 2);
        sides(x, 1, 0, 1, 0);
        check.same("dry one", x.border(2, 0), 1);
        sides(x, 1, 0, 0, 0);
        check.same("left joined", x.border(3, 2), 0);
        sides(x, 1, 2, 0, 2);
        check.same("right dry", x.border(1, 0), 2);
        sides(x, 1, 0, 0, 0);
        check.same("right icy", x.border(1, 1), 0);
        check.same("left joined over icy", x.border(3, 2), 0);
        sides(x, 1, 2, 0, 2);
        check.same("the answer is of the side named", x.border(1, 1), 2);
        sides(x, 1, 1, 0, 1);
        for (int n : new int[] {-1, 4, Integer.MIN_VALUE, Integer.MAX_VALUE}) {
            check.refused(x, "border(" + n + ", 0)", ARGUMENT, () -> x.border(n, 0));
            check.refused(x, "border(0, " + n + ")", ARGUMENT, () -> x.border(0, n));
        }
        check.refused(x, "border(0, 3)", ARGUMENT, () -> x.border(0, 3));
    }

    private static void sides(PaneFrost x, int... due) {
        for (int side = 0; side < 4; side++) {
            check.same("side " + side, x.side(side), due[side]);
        }
    }

    private static void rule() {
        PaneFrost x = new PaneFrost();
        check.same("first", x.rule(2), 0);
        check.same("then", x.rule(1), 2);
        check.same("the same", x.rule(1), 1);
        check.same("about it", x.about(4), 1);
        check.same("back", x.rule(0), 1);
        for (int rule : new int[] {-1, 3, Integer.MIN_VALUE, Integer.MAX_VALUE}) {
            check.refused(x, "rule(" + rule + ")", ARGUMENT, () -> x.rule(rule));
        }
    }

    private static void breathe() {
        PaneFrost x = full(4, 4);
        check.same("no step", x.breathe(5, 0), 1);
        check.same("that cell", x.frozen(), 0xFFDFL);
        check.same("clear already", x.breathe(5, 0), 0);
        check.same("one step", x.breathe(5, 1), 4);
        check.same("a cross", x.frozen(), 0xFD8DL);
        check.same("two steps, over clear cells", x.breathe(5, 2), 6);
        check.same("the rest", x.frozen(), Looks.set(3, 11, 12, 14, 15));
        check.same("nine steps", x.breathe(0, 9), 5);
        check.same("all clear", x.frozen(), 0L);
        PaneFrost y = full(8, 8);
        check.same("nine steps of fourteen", y.breathe(0, 9), 64 - 15);
        check.same("the last corner stays", y.cell(63, 0), 1);
        for (int k : new int[] {-1, 64, Integer.MIN_VALUE, Integer.MAX_VALUE}) {
            check.refused(y, "breathe(" + k + ", 0)", INDEX, () -> y.breathe(k, 0));
            check.refused(y, "breathe(" + k + ", 10)", INDEX, () -> y.breathe(k, 10));
        }
        for (int steps : new int[] {-1, 10, Integer.MIN_VALUE, Integer.MAX_VALUE}) {
            check.refused(y, "breathe(63, " + steps + ")", ARGUMENT, () -> y.breathe(63, steps));
        }
        check.same("the cell is still frozen", y.cell(63, 0), 1);
    }

    private static void breatheOver() {
        PaneFrost x = full(4, 4);
        x.scratch(0, 1);
        check.same("not over a scratch", x.breathe(0, 1), 2);
        check.same("but around it", x.breathe(0, 3), 6);
        PaneFrost y = full(4, 4);
        y.border(0, 2);
        check.same("over the top", y.breathe(0, 1), 4);
        check.same("the cell below", y.cell(12, 0), 0);
        y.border(1, 2);
        check.same("over the left", y.breathe(0, 1), 1);
        check.same("the cell on the right", y.cell(3, 0), 0);
        y.border(3, 1);
        y.border(0, 1);
        check.same("not over ice", y.breathe(5, 1), 3);
    }

    private static PaneFrost full(int rows, int cells) {
        PaneFrost x = new PaneFrost();
        x.size(rows, cells);
        for (int k = 0; k < rows * cells; k++) {
            x.flip(k);
        }
        return x;
    }

    private static void nightsByRules() {
        PaneFrost x = Looks.loaded("W33f04");
        check.same("rule 0", x.nights(1), 5);
        check.same("a cross", x.frozen(), Looks.set(1, 3, 4, 5, 7));
        check.same("rule 0 again", x.nights(1), 5);
        check.same("two nights", x.about(5), 2);
        PaneFrost y = Looks.loaded("W33f04r1");
        check.same("rule 1", y.nights(1), 4);
        check.same("without the middle", y.frozen(), Looks.set(1, 3, 5, 7));
        check.same("rule 1 again", y.nights(1), 0);
        PaneFrost z = Looks.loaded("W33f04f03r2");
        check.same("rule 2", z.nights(1), 5);
        check.same("odd ones turn", z.frozen(), Looks.set(0, 1, 5, 6, 7));
        PaneFrost long60 = Looks.loaded("W22f00r1");
        check.same("sixty nights", long60.nights(60), 0);
        check.same("are counted", long60.about(5), 60);
        long60.nights(60);
        check.same("and more", long60.about(5), 120);
    }

    private static void nightsOverSides() {
        PaneFrost icy = Looks.loaded("W33b01");
        check.same("ice above", icy.nights(1), 3);
        check.same("the first row", icy.frozen(), 7L);
        PaneFrost corner = Looks.loaded("W33b01b31r1");
        corner.nights(1);
        check.same("a corner has an even cold", corner.frozen(), Looks.set(1, 2, 3, 6));
        PaneFrost joined = Looks.loaded("W33f00b02b12");
        joined.nights(1);
        check.same("over joined sides", joined.frozen(), Looks.set(0, 1, 2, 3, 6));
        PaneFrost cut = Looks.loaded("W33f00b02b12s000s001");
        cut.nights(1);
        check.same("not over scratches", cut.frozen(), Looks.set(0, 2, 3));
        PaneFrost two = Looks.loaded("W22f00b12");
        two.nights(1);
        check.same("twice is even", two.frozen(), Looks.set(0, 2));
        two.scratch(0, 1);
        two.nights(1);
        check.same("once is odd", two.frozen(), Looks.set(0, 1, 2));
    }

    private static void nightsRefused() {
        PaneFrost x = Looks.loaded("W33f04");
        for (int n : new int[] {0, 61, -1, Integer.MIN_VALUE, Integer.MAX_VALUE}) {
            check.refused(x, "nights(" + n + ")", ARGUMENT, () -> x.nights(n));
        }
        check.refused(x, "undo behind them", STATE, () -> x.undo());
    }

    private static void undoEachAction() {
        PaneFrost x = Looks.loaded("W34f05f06b02s000");
        String[] looks = new String[8];
        looks[0] = Looks.of(x);
        x.flip(0);
        looks[1] = Looks.of(x);
        x.scratch(5, 1);
        looks[2] = Looks.of(x);
        x.border(3, 2);
        looks[3] = Looks.of(x);
        x.rule(2);
        looks[4] = Looks.of(x);
        x.nights(3);
        looks[5] = Looks.of(x);
        x.breathe(5, 1);
        looks[6] = Looks.of(x);
        x.size(3, 4);
        looks[7] = Looks.of(x);
        x.rule(2);
        for (int left = 7; left >= 0; left--) {
            check.same("undo", x.undo(), left);
            check.same("the state before " + left, Looks.of(x), looks[left]);
        }
        check.same("its scratch over the top", x.cell(8, 3), 4);
        check.refused(x, "undo of nothing", STATE, () -> x.undo());
    }

    private static void undoForgets() {
        PaneFrost x = Looks.loaded("W44");
        for (int k = 0; k < 15; k++) {
            x.flip(k);
        }
        for (int left = 13; left >= 0; left--) {
            check.same("undo", x.undo(), left);
            check.same("frozen", x.frozen(), (1L << left + 1) - 1L);
        }
        check.refused(x, "the fifteenth is forgotten", STATE, () -> x.undo());
        x.flip(15);
        check.same("remembered anew", x.undo(), 0);
        check.same("the state then", x.frozen(), 1L);
        for (int i = 0; i < 40; i++) {
            x.flip(i % 16);
            x.flip(3);
            check.same("undo in between", x.undo(), Math.min(i + 1, 13));
        }
    }

    private static void refusedIsNoAction() {
        PaneFrost x = Looks.loaded("W44");
        x.flip(0);
        check.refused(x, "flip", INDEX, () -> x.flip(16));
        check.refused(x, "size", ARGUMENT, () -> x.size(1, 1));
        check.refused(x, "scratch", STATE, () -> x.scratch(0, 0));
        check.refused(x, "border", ARGUMENT, () -> x.border(0, 3));
        check.refused(x, "rule", ARGUMENT, () -> x.rule(3));
        check.refused(x, "breathe", ARGUMENT, () -> x.breathe(0, 10));
        check.refused(x, "nights", ARGUMENT, () -> x.nights(0));
        x.coming(3);
        x.keeps(0, 3);
        x.runScript(1, 1000L);
        x.simulate(1L, 3);
        x.save(0);
        x.clearText();
        check.same("one action", x.undo(), 0);
        check.same("clear again", x.frozen(), 0L);
    }
}
