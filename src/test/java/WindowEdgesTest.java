/** The edges that the document names: window, nights and patches of the terms, promises 6 to 10, a sentence each. */
public final class WindowEdgesTest {
    private static final Class<IllegalArgumentException> ARGUMENT = IllegalArgumentException.class;
    private static final Class<IndexOutOfBoundsException> INDEX = IndexOutOfBoundsException.class;
    private static final int NONE = PaneFrost.NONE;
    private static final int[] SIZES = {2, 3, 4, 5, 6, 7, 8};
    private static final Check check = new Check("WindowEdgesTest");

    public static void main(String[] args) {
        manyCalls();
        sizes();
        numbers();
        clearAtFirst();
        sets();
        directions();
        sidesOfTheWindow();
        kindsOfSides();
        neighboursOverSides();
        scratchesStopFrost();
        twoCellsJoined();
        twoRowsJoined();
        twoByTwoJoined();
        cold();
        coldByIce();
        allAtOnce();
        rules();
        nightsCounted();
        patches();
        patchesOverSides();
        about();
        frozen();
        cell();
        neighbour();
        side();
        check.close();
    }

    private static void manyCalls() {
        check.sentence(0, "An object is used for at most 512 calls after it has been made");
        PaneFrost x = new PaneFrost();
        for (int i = 0; i < 510; i++) {
            x.nights(60);
        }
        check.same("the call 511", x.undo(), 13);
        check.same("the call 512", x.about(5), 509 * 60);
    }

    // ---- the window

    private static void sizes() {
        check.sentence(0, "The window has 2 to 8 rows of 2 to 8 cells, at first 4 of 4.");
        check.same("rows at first", new PaneFrost().about(0), 4);
        check.same("cells at first", new PaneFrost().about(1), 4);
        for (int kind = 0; kind <= 2; kind++) {
            for (int side = 0; side < 4; side++) {
                check.same("a side at first", bordered(new PaneFrost(), side, kind), bordered(Looks.sized(4, 4), side, kind));
            }
        }
        for (int rows : SIZES) {
            for (int cells : SIZES) {
                PaneFrost x = new PaneFrost();
                check.same("size(" + rows + ", " + cells + ")", x.size(rows, cells), rows * cells);
                check.same("its rows", x.about(0), rows);
                check.same("its cells", x.about(1), cells);
                check.same("its last cell", x.flip(rows * cells - 1), 1);
                check.refused(x, "one more", INDEX, () -> x.flip(rows * cells));
                check.refused(x, "one less", INDEX, () -> x.flip(-1));
            }
        }
    }

    /** What 16 cells show of a side, and of a scratch, a patch and a night over it. */
    private static String bordered(PaneFrost x, int side, int kind) {
        StringBuilder all = new StringBuilder();
        x.border(side, kind);
        for (int k = 0; k < 16; k++) {
            all.append(' ').append(x.cell(k, 1)).append(' ').append(x.neighbour(k, side));
        }
        if (kind == 2) {
            x.scratch(side % 2 == 0 ? 12 : 3, side % 2 == 0 ? 2 : 1);
        }
        x.flip(0);
        x.flip(3);
        x.flip(12);
        x.nights(1);
        all.append(' ').append(x.about(6)).append(' ').append(x.about(3)).append(' ').append(x.frozen());
        x.breathe(0, 2);
        return all.append(' ').append(x.frozen()).toString();
    }

    private static void numbers() {
        check.sentence(0, "The cell in the row r, in the place c of it, both from 0, has the number r * (the cells of a row) + c.");
        for (int rows : SIZES) {
            for (int cells : SIZES) {
                PaneFrost x = Looks.sized(rows, cells);
                for (int r = 0; r < rows; r++) {
                    for (int c = 0; c < cells; c++) {
                        int k = r * cells + c;
                        check.same("above " + k, x.neighbour(k, 0), r == 0 ? NONE : (r - 1) * cells + c);
                        check.same("right of " + k, x.neighbour(k, 1), c == cells - 1 ? NONE : r * cells + c + 1);
                        check.same("below " + k, x.neighbour(k, 2), r == rows - 1 ? NONE : (r + 1) * cells + c);
                        check.same("left of " + k, x.neighbour(k, 3), c == 0 ? NONE : r * cells + c - 1);
                    }
                }
            }
        }
    }

    private static void clearAtFirst() {
        check.sentence(0, "A cell is frozen, or clear (at first).");
        PaneFrost x = new PaneFrost();
        for (int k = 0; k < 16; k++) {
            check.same("clear at first", x.cell(k, 0), 0);
        }
        for (int k = 0; k < 16; k++) {
            x.flip(k);
            check.same("frozen then", x.cell(k, 0), 1);
        }
        x.size(8, 8);
        for (int k = 0; k < 64; k++) {
            check.same("clear in another window", x.cell(k, 0), 0);
        }
    }

    private static void sets() {
        check.sentence(0, "A set of cells is told as a long whose bit k (with the value 1L << k) is 1 if the cell k is in it.");
        PaneFrost x = Looks.sized(8, 8);
        long due = 0L;
        for (int k = 0; k < 64; k++) {
            x.flip(k);
            check.same("the cell " + k, x.frozen() ^ due, 1L << k);
            due |= 1L << k;
        }
        check.same("all", x.frozen(), -1L);
        for (int k = 0; k < 64; k++) {
            PaneFrost y = Looks.sized(8, 8);
            y.flip(k);
            check.same("alone", y.frozen(), 1L << k);
            check.same("alone, told by coming", y.coming(1) & 1L << k, 1L << k);
            check.same("alone, told by cell", y.cell(k, 0), 1);
        }
    }

    private static void directions() {
        check.sentence(0, "The directions are 0 up (to the row before), 1 right, 2 down, 3 left.");
        PaneFrost x = Looks.sized(3, 5);
        check.same("up", x.neighbour(7, 0), 2);
        check.same("right", x.neighbour(7, 1), 8);
        check.same("down", x.neighbour(7, 2), 12);
        check.same("left", x.neighbour(7, 3), 6);
        check.sentence(0, "In each direction a cell has a neighbour: the next cell");
        for (int d = 0; d < 4; d++) {
            PaneFrost y = Looks.sized(3, 5);
            y.flip(7);
            check.same("whose cold it is", y.cell(x.neighbour(7, d), 1), 1);
            y.scratch(7, d);
            check.same("the scratch to there", y.cell(7, 3), 1 << d);
            check.same("the scratch from there", y.cell(x.neighbour(7, d), 3), 1 << (d + 2) % 4);
        }
    }

    private static boolean isAlong(int k, int side, int rows, int cells) {
        int[] distance = {k / cells, cells - 1 - k % cells, rows - 1 - k / cells, k % cells};
        return distance[side] == 0;
    }

    private static void sidesOfTheWindow() {
        check.sentence(0, "The sides of the window are 0 above the first row, 1 on the right, 2 below the last row, 3 on the left.");
        for (int rows : SIZES) {
            for (int cells : SIZES) {
                for (int side = 0; side < 4; side++) {
                    PaneFrost x = Looks.sized(rows, cells);
                    x.border(side, 1);
                    for (int k = 0; k < rows * cells; k++) {
                        check.same("cold by the side " + side, x.cell(k, 1), isAlong(k, side, rows, cells) ? 1 : 0);
                    }
                }
            }
        }
    }

    private static void kindsOfSides() {
        check.sentence(0, "A side is dry (0, at first), icy (1), or joined (2) to the opposite one; if one is joined, the opposite one is, too.");
        PaneFrost first = new PaneFrost();
        for (int side = 0; side < 4; side++) {
            check.same("dry at first", first.side(side), 0);
        }
        int[][] pairs = {{0, 0}, {0, 1}, {1, 0}, {1, 1}, {2, 2}};
        for (int side = 0; side < 4; side++) {
            for (int[] before : pairs) {
                for (int[] across : pairs) {
                    for (int kind = 0; kind <= 2; kind++) {
                        becomes(side, before, across, kind);
                    }
                }
            }
        }
    }

    private static void becomes(int side, int[] before, int[] across, int kind) {
        PaneFrost x = new PaneFrost();
        int opposite = (side + 2) % 4;
        int next = (side + 1) % 4;
        int behind = (side + 3) % 4;
        x.border(side, before[0]);
        x.border(opposite, before[1]);
        x.border(next, across[0]);
        x.border(behind, across[1]);
        check.same("what it was", x.border(side, kind), before[0]);
        check.same("the side", x.side(side), kind);
        check.same("the opposite", x.side(opposite), kind == 2 || before[0] == 2 ? kind : before[1]);
        check.same("the next", x.side(next), across[0]);
        check.same("the one behind", x.side(behind), across[1]);
    }

    private static void neighboursOverSides() {
        check.sentence(0, "on a side of the window nothing, if it is dry, ice, if it is icy, and the cell on the opposite side (in the same row, or the same place), if it is joined.");
        for (int rows : SIZES) {
            for (int cells : SIZES) {
                for (int kinds = 0; kinds < 9; kinds++) {
                    overSides(rows, cells, kinds / 3, kinds % 3);
                }
            }
        }
    }

    private static void overSides(int rows, int cells, int ends, int flanks) {
        PaneFrost x = Looks.sized(rows, cells);
        for (int side = 0; side < 4; side++) {
            x.border(side, side % 2 == 0 ? ends : flanks);
        }
        for (int k = 0; k < rows * cells; k++) {
            int c = k % cells;
            int ice = 0;
            int[] opposite = {(rows - 1) * cells + c, k - c, c, k - c + cells - 1};
            for (int side = 0; side < 4; side++) {
                int kind = side % 2 == 0 ? ends : flanks;
                if (isAlong(k, side, rows, cells)) {
                    check.same("over the side " + side, x.neighbour(k, side), kind == 2 ? opposite[side] : NONE);
                    ice += kind == 1 ? 1 : 0;
                }
            }
            check.same("the ice", x.cell(k, 1), ice);
        }
    }

    private static void scratchesStopFrost() {
        check.sentence(0, "Between two cells that are neighbours there may be a scratch; frost does not pass it.");
        int[] beside = {1, 5, 7, 3};
        for (int d = 0; d < 4; d++) {
            for (boolean isFromThere : new boolean[] {false, true}) {
                PaneFrost x = Looks.loaded("W33f04");
                x.scratch(isFromThere ? beside[d] : 4, isFromThere ? (d + 2) % 4 : d);
                check.same("no cold behind it", x.cell(beside[d], 1), 0);
                x.flip(4);
                x.flip(beside[d]);
                check.same("nor from there", x.cell(4, 1), 0);
                x.flip(4);
                check.same("two patches", x.about(6), 2);
                x.flip(beside[d]);
                x.nights(1);
                check.same("all but the one", x.frozen(), Looks.set(1, 3, 4, 5, 7) & ~(1L << beside[d]));
            }
        }
        PaneFrost all = Looks.full(4, 4);
        Looks.scratchAll(all, 4, 4);
        for (int k = 0; k < 16; k++) {
            check.same("no cold at all", all.cell(k, 1), 0);
        }
        check.same("sixteen patches", all.about(6), 16);
    }

    // ---- two cells or rows that are joined

    private static void twoCellsJoined() {
        check.sentence(0, "With two cells (or rows) that are joined, a cell has the other one as a neighbour on both sides, and each of both has a scratch of its own.");
        for (int rows : SIZES) {
            for (int r = 0; r < rows; r++) {
                twins(rows, 2, 1, 2 * r, 2 * r + 1);
            }
        }
    }

    private static void twoRowsJoined() {
        check.sentence(0, "With two cells (or rows) that are joined");
        for (int cells : SIZES) {
            for (int c = 0; c < cells; c++) {
                twins(2, cells, 2, c, cells + c);
            }
        }
    }

    /** Two cells, one d of the other within the window, whose sides d and behind are joined. */
    private static void twins(int rows, int cells, int d, int one, int other) {
        int back = (d + 2) % 4;
        PaneFrost x = Looks.sized(rows, cells);
        x.border(d, 2);
        check.same("the other one", x.neighbour(one, d), other);
        check.same("the other one again", x.neighbour(one, back), other);
        check.same("and back", x.neighbour(other, d), one);
        check.same("and back again", x.neighbour(other, back), one);
        x.flip(other);
        check.same("cold twice", x.cell(one, 1), 2);
        check.same("an even cold", x.coming(1) & 1L << one, 0L);
        check.same("a scratch over the side", x.scratch(one, back), 1);
        check.same("it alone", x.cell(one, 3), 1 << back);
        check.same("it alone from there", x.cell(other, 3), 1 << d);
        check.same("cold once", x.cell(one, 1), 1);
        check.same("an odd cold", x.coming(1) & 1L << one, 1L << one);
        check.same("a scratch within", x.scratch(other, back), 1);
        check.same("both", x.cell(one, 3), 1 << back | 1 << d);
        check.same("both from there", x.cell(other, 3), 1 << back | 1 << d);
        check.same("two scratches", x.about(3), 2);
        check.same("no cold", x.cell(one, 1), 0);
        x.flip(one);
        check.same("two patches", x.about(6), 2);
        check.same("breath reaches neither", x.breathe(one, 1), 1);
        x.undo();
        check.same("the first is polished from there", x.scratch(other, d), 0);
        check.same("the one within is left", x.cell(one, 3), 1 << d);
        check.same("one patch", x.about(6), 1);
        check.same("breath passes over the side", x.breathe(one, 1), 2);
        x.border(back, 0);
        check.same("apart, but for the one within", x.cell(one, 3), 1 << d);
        check.same("one neighbour", x.neighbour(one, back), NONE);
    }

    private static void twoByTwoJoined() {
        check.sentence(0, "a cell has the other one as a neighbour on both sides");
        PaneFrost x = Looks.loaded("W22b02b12f00f01f02f03");
        for (int k = 0; k < 4; k++) {
            check.same("cold of four", x.cell(k, 1), 4);
        }
        Looks.scratchAll(x, 2, 2);
        check.same("eight scratches", x.about(3), 8);
        check.same("all of a cell", x.cell(3, 3), 15);
        check.same("four patches", x.about(6), 4);
        x.scratch(3, 0);
        check.same("three patches", x.about(6), 3);
        check.same("of two", x.about(7), 2);
        x.scratch(3, 2);
        check.same("three patches still", x.about(6), 3);
        check.same("cold twice", x.cell(1, 1), 2);
    }

    // ---- nights

    private static void cold() {
        check.sentence(0, "The cold of a cell is how many of its four neighbours are frozen cells, without a scratch between, or ice.");
        int[] beside = {1, 5, 7, 3};
        for (int frozen = 0; frozen < 16; frozen++) {
            for (int scratched = 0; scratched < 16; scratched++) {
                PaneFrost x = Looks.sized(3, 3);
                for (int d = 0; d < 4; d++) {
                    if ((frozen >> d & 1) != 0) {
                        x.flip(beside[d]);
                    }
                    if ((scratched >> d & 1) != 0) {
                        x.scratch(4, d);
                    }
                }
                check.same("cold", x.cell(4, 1), Integer.bitCount(frozen & ~scratched));
                x.flip(4);
                check.same("cold of a frozen one", x.cell(4, 1), Integer.bitCount(frozen & ~scratched));
                check.same("none across", x.cell(0, 1), (frozen & 1) + (frozen >> 3 & 1));
            }
        }
    }

    private static void coldByIce() {
        check.sentence(0, "are frozen cells, without a scratch between, or ice.");
        for (int ice = 0; ice < 16; ice++) {
            PaneFrost x = Looks.sized(2, 2);
            for (int side = 0; side < 4; side++) {
                x.border(side, ice >> side & 1);
            }
            check.same("above and left", x.cell(0, 1), (ice & 1) + (ice >> 3 & 1));
            check.same("above and right", x.cell(1, 1), (ice & 1) + (ice >> 1 & 1));
            check.same("below and left", x.cell(2, 1), (ice >> 2 & 1) + (ice >> 3 & 1));
            check.same("below and right", x.cell(3, 1), (ice >> 2 & 1) + (ice >> 1 & 1));
        }
        PaneFrost both = Looks.loaded("W22b01b11b21b31f01f02");
        check.same("ice and frost", both.cell(0, 1), 4);
        for (int side = 0; side < 4; side++) {
            PaneFrost y = Looks.loaded("W33b02b12");
            int k = new int[] {1, 5, 7, 3}[side];
            y.scratch(k, side);
            y.border(side, 1);
            check.same("ice where a scratch was", y.cell(k, 1), 1);
            check.same("by a night, too", y.coming(1) >>> k & 1L, 1L);
        }
        PaneFrost joined = Looks.loaded("W33b12f02");
        check.same("frost over a joined side", joined.cell(0, 1), 1);
        joined.border(3, 0);
        check.same("none over a dry one", joined.cell(0, 1), 0);
        joined.border(3, 1);
        check.same("ice over an icy one", joined.cell(0, 1), 1);
    }

    private static void allAtOnce() {
        check.sentence(0, "In a night all cells change at once");
        for (int k = 0; k < 8; k++) {
            PaneFrost x = Looks.sized(2, 8);
            x.flip(k);
            long due = 1L << k | 1L << k + 8 | (k > 0 ? 1L << k - 1 : 0L) | (k < 7 ? 1L << k + 1 : 0L);
            check.same("a step in a night, by the rule 0", x.coming(1), due);
            x.rule(2);
            check.same("a step in a night, by the rule 2", x.coming(1), due);
            x.rule(1);
            check.same("a step in a night, by the rule 1", x.coming(1), due & ~(1L << k));
        }
        check.same("two in a row", Looks.loaded("W28f00f01r1").coming(1), Looks.set(0, 1, 2, 8, 9));
        check.same("two that feed each other", Looks.loaded("W22f00f01r1").coming(1), 15L);
        check.same("one without neighbours", Looks.loaded("W22f00s002s001r1").coming(1), 0L);
        check.same("a pair alone", Looks.loaded("W22f00s002s012r1").coming(1), Looks.set(1));
        check.same("and back", Looks.loaded("W22f00s002s012r1").coming(2), Looks.set(0));
    }

    private static void rules() {
        for (int cold = 0; cold <= 4; cold++) {
            boolean odd = cold % 2 == 1;
            check.sentence(0, "with the rule 0 (at first) a clear cell with an odd cold freezes, and frozen ones stay so");
            night(0, false, cold, odd);
            night(0, true, cold, true);
            check.sentence(0, "with the rule 1 a cell is frozen then if its cold is odd, otherwise clear");
            night(1, false, cold, odd);
            night(1, true, cold, odd);
            check.sentence(0, "with the rule 2 it is frozen then if its cold is odd and it was clear, or even and it was frozen.");
            night(2, false, cold, odd);
            night(2, true, cold, !odd);
        }
        check.sentence(0, "with the rule 0 (at first)");
        check.same("at first", new PaneFrost().about(4), 0);
        PaneFrost first = new PaneFrost();
        first.flip(0);
        first.nights(1);
        check.same("a night by it", first.frozen(), Looks.set(0, 1, 4));
    }

    private static void night(int rule, boolean isFrozen, int cold, boolean due) {
        int[] beside = {7, 3, 1, 5};
        PaneFrost x = Looks.sized(3, 3);
        x.rule(rule);
        if (isFrozen) {
            x.flip(4);
        }
        for (int i = 0; i < cold; i++) {
            x.flip(beside[i]);
        }
        String which = "rule " + rule + ", cold " + cold + (isFrozen ? ", frozen" : ", clear");
        check.same(which, x.cell(4, 1), cold);
        check.same(which + " told ahead", (x.coming(1) >>> 4 & 1L) != 0L, due);
        x.nights(1);
        check.same(which + " then", x.cell(4, 0) == 1, due);
    }

    private static void nightsCounted() {
        check.sentence(0, "Nights are counted from 0.");
        PaneFrost x = new PaneFrost();
        check.same("at first", x.about(5), 0);
        x.nights(1);
        check.same("one", x.about(5), 1);
        x.nights(60);
        check.same("and sixty", x.about(5), 61);
        x.rule(1);
        x.size(2, 2);
        check.same("in another window", x.about(5), 61);
        x.undo();
        x.undo();
        x.undo();
        check.same("taken back", x.about(5), 1);
    }

    // ---- patches

    private static void patches() {
        check.sentence(0, "Two frozen cells that are neighbours without a scratch between are in one patch, and so on from cell to cell.");
        patch("W33", 0, 0);
        patch("W33f04", 1, 1);
        patch("W33f00f01", 1, 2);
        patch("W33f00f03", 1, 2);
        patch("W33f00f04", 2, 1);
        patch("W33f00f02", 2, 1);
        patch("W33f02f03", 2, 1);
        patch("W33f00f01s001", 2, 1);
        patch("W33f00f01s013", 2, 1);
        patch("W33f00f03s002", 2, 1);
        patch("W22f00f01f02f03s001s002", 2, 3);
        patch("W22f00f01f02f03s001", 1, 4);
        patch("W28f00f01f02f03f04f05f06f07", 1, 8);
        patch("W82f00f02f04f06f08f10f12f14", 1, 8);
        PaneFrost all = Looks.full(8, 8);
        check.same("all in one", all.about(6), 1);
        check.same("of all", all.about(7), 64);
        check.same("of each", all.cell(63, 2), 64);
        Looks.windUp(all);
        check.same("one way", all.about(6), 1);
        check.same("of all still", all.cell(56, 2), 64);
    }

    private static void patch(String text, int count, int largest) {
        PaneFrost x = Looks.loaded(text);
        check.same("patches of " + text, x.about(6), count);
        check.same("the largest of " + text, x.about(7), largest);
    }

    private static void patchesOverSides() {
        check.sentence(0, "Two frozen cells that are neighbours without a scratch between are in one patch");
        patch("W33f00f02", 2, 1);
        patch("W33f00f02b12", 1, 2);
        patch("W33f00f06b12", 2, 1);
        patch("W33f00f06b02", 1, 2);
        patch("W33f00f02b12s003", 2, 1);
        patch("W33f00f02b12s003b30", 2, 1);
        patch("W33f00f02b11b31", 2, 1);
        patch("W33f00f02b01", 2, 1);
        patch("W33f02f08b11", 2, 1);
        patch("W33f06f08b21", 2, 1);
        patch("W33f00f06b31", 2, 1);
        patch("W33f00f08b02b12", 2, 1);
        patch("W33f00f02f08b02b12", 1, 3);
        patch("W25f04f05", 2, 1);
        patch("W25f04f05b12", 2, 1);
        patch("W25f04f00f05b12", 1, 3);
    }

    // ---- promises 6 to 10

    private static void about() {
        check.sentence(6, "- `what`: 0: the rows; 1: the cells of a row; 2: the frozen cells, how many; 3: the scratches between cells that are neighbours over them; 4: the rule; 5: the nights so far; 6: the patches; 7: the cells of the largest patch, 0 without one");
        abouts(new PaneFrost(), 4, 4, 0, 0, 0, 0, 0, 0);
        PaneFrost late = Looks.loaded("W28f00f15f14r2n60");
        abouts(late, 2, 8, Long.bitCount(late.frozen()), 0, 2, 60, -1, -1);
        abouts(Looks.full(2, 2), 2, 2, 4, 0, 0, 0, 1, 4);
        abouts(Looks.full(8, 8), 8, 8, 64, 0, 0, 0, 1, 64);
        PaneFrost chequered = Looks.sized(8, 8);
        for (int k = 0; k < 64; k++) {
            if ((k / 8 + k) % 2 == 0) {
                chequered.flip(k);
            }
        }
        abouts(chequered, 8, 8, 32, 0, 0, 0, 32, 1);
        PaneFrost torn = Looks.full(8, 8);
        Looks.scratchAll(torn, 8, 8);
        abouts(torn, 8, 8, 64, 112, 0, 0, 64, 1);
        PaneFrost joined = Looks.loaded("W88b02b12");
        Looks.scratchAll(joined, 8, 8);
        abouts(joined, 8, 8, 0, 128, 0, 0, 0, 0);
        joined.border(1, 0);
        check.same("without those over two sides", joined.about(3), 120);
        joined.border(0, 1);
        check.same("without those over any", joined.about(3), 112);
        joined.border(2, 2);
        check.same("with those over two", joined.about(3), 120);
        check.sentence(6, "Throws `IllegalArgumentException` if what is not 0 to 7");
        check.refused(joined, "-1", ARGUMENT, () -> joined.about(-1));
        check.refused(joined, "8", ARGUMENT, () -> joined.about(8));
    }

    private static void abouts(PaneFrost x, int... due) {
        for (int what = 0; what < 8; what++) {
            if (due[what] != -1) {
                check.same("about(" + what + ")", x.about(what), due[what]);
            }
        }
    }

    private static void frozen() {
        check.sentence(7, "Returns them, as a set.");
        check.same("none", new PaneFrost().frozen(), 0L);
        check.same("the first", Looks.loaded("W88f00").frozen(), 1L);
        check.same("the last", Looks.loaded("W88f63").frozen(), Long.MIN_VALUE);
        check.same("all", Looks.full(8, 8).frozen(), -1L);
        check.same("all of the least", Looks.full(2, 2).frozen(), 15L);
        for (int rows : SIZES) {
            for (int cells : SIZES) {
                PaneFrost x = Looks.sized(rows, cells);
                for (int side = 0; side < 4; side++) {
                    x.border(side, 1);
                }
                for (int rule = 0; rule < 3; rule++) {
                    x.rule(rule);
                    x.nights(7);
                    long outside = rows * cells == 64 ? 0L : -1L << rows * cells;
                    check.same("no other than its cells", x.frozen() & outside, 0L);
                }
            }
        }
    }

    private static void cell() {
        check.sentence(8, "- `k`: cell");
        PaneFrost x = Looks.loaded("W28f00f15");
        check.same("the least", x.cell(0, 0), 1);
        check.same("the greatest", x.cell(15, 0), 1);
        check.same("the greatest of all", Looks.loaded("W88f63").cell(63, 0), 1);
        check.sentence(8, "- `what`: 0: 1 if it is frozen, otherwise 0; 1: its cold; 2: the cells of its patch, how many, 0 if it is clear; 3: the directions in which it has a scratch to a cell that is its neighbour now, as a set (the sum of 1 << d for the directions d)");
        cells(Looks.sized(3, 3), 4, 0, 0, 0, 0);
        cells(Looks.full(3, 3), 4, 1, 4, 9, 0);
        cells(Looks.full(8, 8), 0, 1, 2, 64, 0);
        cells(Looks.loaded("W33f01f03f05f07s040s041s042s043"), 4, 0, 0, 0, 15);
        cells(Looks.loaded("W33f01f03f05f07f04s040s041s042s043"), 4, 1, 0, 1, 15);
        cells(Looks.loaded("W33b02b12s000s003f02f06"), 0, 0, 0, 0, 9);
        cells(Looks.loaded("W33b02b12s000s003f02f06b00"), 0, 0, 0, 0, 8);
        cells(Looks.loaded("W33b02b12s000s003f02f06b00b30"), 0, 0, 0, 0, 0);
        cells(Looks.loaded("W33b02b12s000s003f02f06b01b30"), 0, 0, 1, 0, 0);
        cells(Looks.loaded("W33b02b12s000s003f02f06b00b30b12"), 0, 0, 0, 0, 8);
        for (int d = 0; d < 4; d++) {
            cells(Looks.loaded("W33s04" + d), 4, 0, 0, 0, 1 << d);
        }
        check.sentence(8, "Throws `IndexOutOfBoundsException` if there is no such cell");
        for (int what = -1; what <= 4; what++) {
            int asked = what;
            check.refused(x, "cell(-1)", INDEX, () -> x.cell(-1, asked));
            check.refused(x, "cell(16)", INDEX, () -> x.cell(16, asked));
        }
        check.sentence(8, "Throws `IllegalArgumentException` if what is not 0 to 3");
        check.refused(x, "-1", ARGUMENT, () -> x.cell(15, -1));
        check.refused(x, "4", ARGUMENT, () -> x.cell(15, 4));
    }

    private static void cells(PaneFrost x, int k, int... due) {
        for (int what = 0; what < 4; what++) {
            check.same("cell(" + k + ", " + what + ")", x.cell(k, what), due[what]);
        }
    }

    private static void neighbour() {
        check.sentence(9, "- `k`: cell");
        PaneFrost x = Looks.sized(2, 2);
        check.same("of the least", x.neighbour(0, 1), 1);
        check.same("of the greatest", x.neighbour(3, 0), 1);
        check.same("of the greatest of all", Looks.sized(8, 8).neighbour(63, 0), 55);
        check.sentence(9, "- `d`: direction");
        check.same("the least", x.neighbour(2, 0), 0);
        check.same("the greatest", x.neighbour(1, 3), 0);
        check.sentence(9, "Returns the cell; NONE if there is no cell (nothing, or ice).");
        for (int side = 0; side < 4; side++) {
            PaneFrost y = Looks.sized(3, 3);
            int k = new int[] {1, 5, 7, 3}[side];
            check.same("nothing", y.neighbour(k, side), NONE);
            y.border(side, 1);
            check.same("ice", y.neighbour(k, side), NONE);
            y.border(side, 2);
            check.same("a cell", y.neighbour(k, side), new int[] {7, 3, 1, 5}[side]);
            y.scratch(k, side);
            check.same("over a scratch, too", y.neighbour(k, side), new int[] {7, 3, 1, 5}[side]);
        }
        check.sentence(9, "Throws `IndexOutOfBoundsException` if there is no such cell");
        for (int d = -1; d <= 4; d++) {
            int asked = d;
            check.refused(x, "neighbour(-1)", INDEX, () -> x.neighbour(-1, asked));
            check.refused(x, "neighbour(4)", INDEX, () -> x.neighbour(4, asked));
        }
        check.sentence(9, "Throws `IllegalArgumentException` if d is not 0 to 3");
        check.refused(x, "-1", ARGUMENT, () -> x.neighbour(3, -1));
        check.refused(x, "4", ARGUMENT, () -> x.neighbour(3, 4));
    }

    private static void side() {
        check.sentence(10, "- `side`: 0 to 3");
        PaneFrost x = Looks.loaded("W44b01b12");
        check.same("the least", x.side(0), 1);
        check.same("the greatest", x.side(3), 2);
        check.sentence(10, "Returns 0 dry, 1 icy, 2 joined.");
        check.same("icy", x.side(0), 1);
        check.same("joined", x.side(1), 2);
        check.same("dry", x.side(2), 0);
        check.sentence(10, "Throws `IllegalArgumentException` if side is out of range");
        check.refused(x, "-1", ARGUMENT, () -> x.side(-1));
        check.refused(x, "4", ARGUMENT, () -> x.side(4));
    }
}
