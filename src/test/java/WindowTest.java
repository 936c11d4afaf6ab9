/** Promises 6 to 10. */
public final class WindowTest {
    private static final Class<IllegalArgumentException> ARGUMENT = IllegalArgumentException.class;
    private static final Class<IndexOutOfBoundsException> INDEX = IndexOutOfBoundsException.class;
    private static final int[] NO_DIRECTIONS = {-1, 4, Integer.MIN_VALUE, Integer.MAX_VALUE};
    private static final Check check = new Check("WindowTest");

    public static void main(String[] args) {
        aboutNumbers();
        aboutPatches();
        frozen();
        cellCold();
        cellPatch();
        cellScratches();
        twoCellsJoined();
        neighbour();
        side();
        refused();
        check.close();
    }

    private static void aboutNumbers() {
        PaneFrost x = Looks.loaded("W58f00f39f07r1n02");
        check.same("rows", x.about(0), 5);
        check.same("cells", x.about(1), 8);
        check.same("frozen", x.about(2), Long.bitCount(x.frozen()));
        check.same("rule", x.about(4), 1);
        check.same("nights", x.about(5), 2);
        PaneFrost y = Looks.loaded("W33b02b12s000s003s041s042");
        check.same("scratches", y.about(3), 4);
        y.border(0, 1);
        check.same("without the one over the top", y.about(3), 3);
        y.border(3, 0);
        check.same("without the one over the left", y.about(3), 2);
        y.border(1, 2);
        check.same("with it again", y.about(3), 3);
        y.scratch(7, 0);
        check.same("polished from the other cell", y.about(3), 2);
        for (int what : new int[] {-1, 8, Integer.MIN_VALUE, Integer.MAX_VALUE}) {
            check.refused(y, "about(" + what + ")", ARGUMENT, () -> y.about(what));
        }
    }

    private static void aboutPatches() {
        PaneFrost x = Looks.loaded("W44f00f01f05f10f15f03");
        check.same("patches", x.about(6), 4);
        check.same("largest", x.about(7), 3);
        x.scratch(0, 1);
        check.same("patches with a scratch", x.about(6), 5);
        check.same("largest with a scratch", x.about(7), 2);
        x.border(1, 2);
        check.same("patches over joined sides", x.about(6), 4);
        check.same("largest over joined sides", x.about(7), 2);
        x.border(0, 2);
        check.same("patches over all sides", x.about(6), 3);
        check.same("largest over all sides", x.about(7), 3);
        x.border(0, 1);
        check.same("ice joins no patches", x.about(6), 4);
        PaneFrost snake = Looks.loaded("W55f00f01f02f03f04f09f14f13f12f11f10f15f20f21f22f23f24");
        check.same("one long patch", snake.about(6), 1);
        check.same("its cells", snake.about(7), 17);
        snake.flip(12);
        check.same("two patches", snake.about(6), 2);
        check.same("the larger one", snake.about(7), 8);
        PaneFrost wound = new PaneFrost();
        wound.size(8, 8);
        Looks.windUp(wound);
        for (int k = 0; k < 64; k++) {
            wound.flip(k);
        }
        check.same("one way of all cells", wound.about(7), 64);
        check.same("one patch", wound.about(6), 1);
        check.same("from its end, too", wound.cell(56, 2), 64);
        wound.scratch(23, 2);
        check.same("cut at a turn", wound.about(6), 2);
        check.same("the longer part", wound.about(7), 40);
        PaneFrost board = Looks.loaded("W88r1b01b11b21b31n01");
        check.same("all but corners on the sides", board.about(2), 24);
        check.same("four strips", board.about(6), 4);
        check.same("of six", board.about(7), 6);
    }

    private static void frozen() {
        PaneFrost x = Looks.loaded("W88f00f63f32f31");
        check.same("frozen()", x.frozen(), 0x8000000180000001L);
        x.flip(63);
        check.same("frozen() then", x.frozen(), 0x0000000180000001L);
        x.nights(60);
        check.same("never beyond the cells", Looks.loaded("W22f00b01b11b21b31r1n07").frozen() & ~0xFL, 0L);
    }

    private static void cellCold() {
        PaneFrost x = Looks.loaded("W33f01f03f05f07");
        check.same("cold amid four", x.cell(4, 1), 4);
        check.same("cold in a corner", x.cell(0, 1), 2);
        check.same("cold of a frozen one", x.cell(1, 1), 0);
        x.scratch(4, 0);
        check.same("cold behind a scratch", x.cell(4, 1), 3);
        x.scratch(5, 3);
        check.same("cold behind two", x.cell(4, 1), 2);
        x.border(0, 1);
        check.same("cold with ice", x.cell(0, 1), 3);
        x.border(3, 1);
        check.same("cold with ice twice", x.cell(0, 1), 4);
        check.same("cold on the ice", x.cell(3, 1), 1);
        check.same("no ice on the right", x.cell(2, 1), 3);
        x.border(1, 2);
        check.same("the frozen one over the side", x.cell(3, 1), 1);
        check.same("the same from there", x.cell(5, 1), 1);
        PaneFrost wide = Looks.loaded("W25f04b12");
        check.same("over the left of a wide one", wide.cell(0, 1), 1);
        check.same("not in the row below", wide.cell(5, 1), 0);
        wide.flip(4);
        wide.flip(5);
        check.same("over the right of a wide one", wide.cell(9, 1), 1);
        check.same("not in the row above", wide.cell(4, 1), 0);
        PaneFrost high = Looks.loaded("W52f08b02");
        check.same("over the top of a high one", high.cell(0, 1), 1);
        check.same("not beside it", high.cell(1, 1), 0);
        high.flip(8);
        high.flip(1);
        check.same("over the bottom of a high one", high.cell(9, 1), 1);
        check.same("frozen", x.cell(1, 0), 1);
        check.same("clear", x.cell(0, 0), 0);
    }

    private static void cellPatch() {
        PaneFrost x = Looks.loaded("W44f00f01f02f06f15");
        check.same("patch of 0", x.cell(0, 2), 4);
        check.same("patch of 6", x.cell(6, 2), 4);
        check.same("patch of 15", x.cell(15, 2), 1);
        check.same("patch of a clear one", x.cell(5, 2), 0);
        x.scratch(2, 3);
        check.same("patch of 0 cut", x.cell(0, 2), 2);
        check.same("patch of 6 cut", x.cell(6, 2), 2);
        x.flip(12);
        x.border(0, 2);
        check.same("patch over the side", x.cell(12, 2), 3);
        x.border(3, 2);
        check.same("patch over both sides", x.cell(15, 2), 4);
    }

    private static void cellScratches() {
        PaneFrost x = Looks.loaded("W33b02b12s040s041s042s043s000s003");
        check.same("all around", x.cell(4, 3), 15);
        check.same("below it", x.cell(7, 3), 1);
        check.same("right of it", x.cell(5, 3), 8);
        check.same("above it", x.cell(1, 3), 4);
        check.same("left of it", x.cell(3, 3), 2);
        check.same("over sides", x.cell(0, 3), 9);
        check.same("over the top from below", x.cell(6, 3), 4);
        check.same("over the left from the right", x.cell(2, 3), 2);
        x.border(2, 0);
        check.same("no neighbour now", x.cell(0, 3), 8);
        check.same("nor from below", x.cell(6, 3), 0);
        x.border(0, 2);
        check.same("again", x.cell(6, 3), 4);
    }

    private static void twoCellsJoined() {
        PaneFrost x = Looks.loaded("W22f01b12");
        check.same("the other one on both sides", x.cell(0, 1), 2);
        check.same("right", x.neighbour(0, 1), 1);
        check.same("left", x.neighbour(0, 3), 1);
        check.same("a scratch on the left", x.scratch(0, 3), 1);
        check.same("cold then", x.cell(0, 1), 1);
        check.same("scratch of 0", x.cell(0, 3), 8);
        check.same("scratch of 1", x.cell(1, 3), 2);
        check.same("one scratch", x.about(3), 1);
        check.same("the other scratch", x.scratch(1, 3), 1);
        check.same("two scratches", x.about(3), 2);
        check.same("no cold then", x.cell(0, 1), 0);
        check.same("both of 0", x.cell(0, 3), 10);
        PaneFrost y = Looks.loaded("W22f02b02");
        check.same("the other row twice", y.cell(0, 1), 2);
        y.scratch(2, 2);
        check.same("scratch over the side", y.cell(0, 3), 1);
        check.same("cold then", y.cell(0, 1), 1);
        y.flip(0);
        check.same("still one patch", y.about(6), 1);
    }

    private static void neighbour() {
        PaneFrost x = Looks.loaded("W35");
        int[][] due = {{-1, 1, 5, -1}, {2, 8, 12, 6}, {9, -1, -1, 13}};
        neighbours(x, 0, due[0]);
        neighbours(x, 7, due[1]);
        neighbours(x, 14, due[2]);
        x.border(0, 1);
        x.border(1, 1);
        neighbours(x, 4, new int[] {-1, -1, 9, 3});
        x.border(2, 2);
        neighbours(x, 4, new int[] {14, -1, 9, 3});
        neighbours(x, 14, new int[] {9, -1, 4, 13});
        x.border(3, 2);
        neighbours(x, 4, new int[] {14, 0, 9, 3});
        neighbours(x, 10, new int[] {5, 11, 0, 14});
        PaneFrost y = Looks.loaded("W88b02b12s000s003");
        neighbours(y, 0, new int[] {56, 1, 8, 7});
        neighbours(y, 63, new int[] {55, 56, 7, 62});
    }

    private static void neighbours(PaneFrost x, int k, int[] due) {
        for (int d = 0; d < 4; d++) {
            check.same("neighbour(" + k + ", " + d + ")", x.neighbour(k, d), due[d]);
        }
    }

    private static void side() {
        PaneFrost x = new PaneFrost();
        for (int side = 0; side < 4; side++) {
            check.same("side first", x.side(side), 0);
        }
        x.border(1, 1);
        x.border(2, 2);
        int[] due = {2, 1, 2, 0};
        for (int side = 0; side < 4; side++) {
            check.same("side " + side, x.side(side), due[side]);
        }
        for (int side : NO_DIRECTIONS) {
            check.refused(x, "side(" + side + ")", ARGUMENT, () -> x.side(side));
        }
    }

    private static void refused() {
        for (int k : new int[] {-1, 12, 63, 64, Integer.MIN_VALUE, Integer.MAX_VALUE}) {
            PaneFrost x = Looks.loaded("W34f01");
            check.refused(x, "cell(" + k + ", 0)", INDEX, () -> x.cell(k, 0));
            check.refused(x, "cell(" + k + ", 4)", INDEX, () -> x.cell(k, 4));
            check.refused(x, "neighbour(" + k + ", 0)", INDEX, () -> x.neighbour(k, 0));
            check.refused(x, "neighbour(" + k + ", 4)", INDEX, () -> x.neighbour(k, 4));
        }
        PaneFrost y = Looks.loaded("W34f01");
        for (int d : NO_DIRECTIONS) {
            check.refused(y, "cell(11, " + d + ")", ARGUMENT, () -> y.cell(11, d));
            check.refused(y, "neighbour(11, " + d + ")", ARGUMENT, () -> y.neighbour(11, d));
        }
    }
}
