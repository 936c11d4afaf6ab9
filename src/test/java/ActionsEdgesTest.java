/** The edges that the document names: actions and undo of the terms, promises 11 to 18, a sentence each. */
public final class ActionsEdgesTest {
    private static final Class<IllegalArgumentException> ARGUMENT = IllegalArgumentException.class;
    private static final Class<IndexOutOfBoundsException> INDEX = IndexOutOfBoundsException.class;
    private static final Class<IllegalStateException> STATE = IllegalStateException.class;
    private static final int NONE = PaneFrost.NONE;
    private static final String RICH = "W34f01f05s051b02b12s003r2n02f07";
    private static final Check check = new Check("ActionsEdgesTest");

    private interface On {
        int run(PaneFrost x);
    }

    public static void main(String[] args) {
        stateWithoutTextAndSlots();
        nothingDifferent();
        undoIsNone();
        rememberedBefore();
        fourteenStates();
        refusedIsNone();
        loadAndRestore();
        size();
        flip();
        scratch();
        scratchStays();
        scratchThrows();
        border();
        rule();
        breathe();
        breatheFar();
        breatheOver();
        nights();
        undo();
        check.close();
    }

    // ---- actions and undo

    private static void stateWithoutTextAndSlots() {
        check.sentence(0, "change the state, which consists of everything but the text and the save slots.");
        PaneFrost x = Looks.loaded(RICH);
        String before = Looks.whole(x);
        x.size(2, 2);
        x.clearText();
        Looks.write(x, "W2");
        x.save(0);
        x.flip(3);
        x.save(1);
        check.same("undo of flip", x.undo(), 1);
        check.same("undo of size", x.undo(), 0);
        check.same("the text stays as it is", x.errorPosition(), 2);
        check.same("with its length", x.clearText(), 2);
        Looks.write(x, RICH);
        check.same("the state is as it was", Looks.whole(x), before);
        check.same("a slot stays as it is", x.restore(0), 2);
        check.same("its rows", x.about(0), 2);
        check.same("its frost", x.frozen(), 0L);
        check.same("the other one, too", x.restore(1), 2);
        check.same("its frost", x.frozen(), 8L);
        eachPartComesBack();
    }

    private static void eachPartComesBack() {
        On[] actions = {x -> x.size(8, 8), x -> x.size(3, 4), x -> x.flip(11), x -> x.scratch(0, 1), x -> x.scratch(11, 1),
            x -> x.border(0, 0), x -> x.border(3, 1), x -> x.rule(0), x -> x.breathe(5, 9), x -> x.nights(60)};
        for (int i = 0; i < actions.length; i++) {
            PaneFrost x = Looks.loaded(RICH);
            String before = Looks.whole(x);
            actions[i].run(x);
            check.same("action " + i + " is one", x.undo(), 0);
            check.same("taken back " + i, Looks.whole(x), before);
            x.border(0, 2);
            x.border(1, 2);
            check.same("scratches of other sides " + i, x.about(3), 2);
        }
    }

    private static void nothingDifferent() {
        check.sentence(0, "Each call of one of them that does not throw an exception is an action, also if nothing becomes different");
        On[] actions = {x -> x.size(4, 4), x -> x.border(0, 0), x -> x.border(3, 0), x -> x.rule(0), x -> x.breathe(15, 0),
            x -> x.breathe(0, 9)};
        for (int i = 0; i < actions.length; i++) {
            PaneFrost x = new PaneFrost();
            String before = Looks.whole(x);
            actions[i].run(x);
            check.same("nothing is different " + i, Looks.whole(x), before);
            check.same("still an action " + i, x.undo(), 0);
            check.refused(x, "and one only", STATE, () -> x.undo());
            for (int j = 0; j < 15; j++) {
                actions[i].run(x);
            }
            check.same("fifteen of them " + i, x.undo(), 13);
        }
        PaneFrost joined = Looks.loaded("W44b02");
        joined.border(2, 2);
        check.same("joined again", joined.undo(), 0);
    }

    private static void undoIsNone() {
        check.sentence(0, "(undo is none)");
        PaneFrost x = new PaneFrost();
        x.flip(0);
        x.flip(1);
        check.same("the last", x.undo(), 1);
        check.same("the first", x.undo(), 0);
        check.same("the state of the beginning", x.frozen(), 0L);
        check.refused(x, "no undo of undo", STATE, () -> x.undo());
        x.flip(2);
        check.same("an action since", x.undo(), 0);
        check.same("the same state", x.frozen(), 0L);
        check.sentence(0, "Changes can be undone.");
        x.flip(3);
        x.undo();
        check.same("undone", x.frozen(), 0L);
    }

    private static void rememberedBefore() {
        check.sentence(0, "Before each action, the state is remembered.");
        PaneFrost x = new PaneFrost();
        String[] looks = new String[14];
        for (int i = 0; i < 14; i++) {
            looks[i] = Looks.of(x);
            act(x, i);
        }
        for (int i = 13; i >= 0; i--) {
            check.same("left", x.undo(), i);
            check.same("the state before the action " + i, Looks.of(x), looks[i]);
        }
    }

    private static void act(PaneFrost x, int i) {
        switch (i % 7) {
            case 0:
                x.flip(i);
                break;
            case 1:
                x.scratch(i % 4, 2);
                break;
            case 2:
                x.border(i % 4, 1 + i % 2);
                break;
            case 3:
                x.rule(1 + i % 2);
                break;
            case 4:
                x.nights(1 + i);
                break;
            case 5:
                x.breathe(i % 4, 1);
                break;
            default:
                x.size(4 + i % 3, 4 + i % 2);
                break;
        }
    }

    private static void fourteenStates() {
        check.sentence(0, "At most 14 states are remembered; when one more is remembered, the oldest one is forgotten.");
        for (int actions = 0; actions <= 60; actions++) {
            PaneFrost x = new PaneFrost();
            for (int i = 0; i < actions; i++) {
                x.nights(1);
            }
            int kept = Math.min(actions, 14);
            for (int left = kept - 1; left >= 0; left--) {
                check.same("left of " + actions, x.undo(), left);
                check.same("the nights then", x.about(5), actions - kept + left);
            }
            check.refused(x, "no more of " + actions, STATE, () -> x.undo());
        }
        PaneFrost y = new PaneFrost();
        for (int i = 0; i < 14; i++) {
            y.nights(1);
        }
        for (int i = 0; i < 40; i++) {
            check.same("one less than all", y.undo(), 13);
            y.nights(2);
        }
        check.same("all again", y.undo(), 13);
        check.same("the nights then", y.about(5), 13);
        check.same("the one before", y.undo(), 12);
        check.same("the nights before", y.about(5), 12);
    }

    private static void refusedIsNone() {
        check.sentence(0, "A call that throws an exception changes nothing.");
        PaneFrost x = Looks.loaded("W44");
        x.flip(0);
        check.refused(x, "size", ARGUMENT, () -> x.size(9, 2));
        check.refused(x, "flip", INDEX, () -> x.flip(16));
        check.refused(x, "scratch over a side", STATE, () -> x.scratch(0, 0));
        check.refused(x, "border", ARGUMENT, () -> x.border(4, 0));
        check.refused(x, "rule", ARGUMENT, () -> x.rule(3));
        check.refused(x, "breathe", ARGUMENT, () -> x.breathe(0, 10));
        check.refused(x, "nights", ARGUMENT, () -> x.nights(61));
        check.same("none of them is remembered", x.undo(), 0);
        check.refused(x, "undo", STATE, () -> x.undo());
        for (int i = 0; i < 14; i++) {
            x.flip(i);
        }
        check.refused(x, "a fifteenth that is refused", INDEX, () -> x.flip(-1));
        for (int left = 13; left >= 0; left--) {
            check.same("all fourteen are there", x.undo(), left);
        }
        check.same("the oldest, too", x.frozen(), 0L);
    }

    private static void loadAndRestore() {
        check.sentence(0, "load and restore are not actions.");
        PaneFrost x = Looks.written("W44f00");
        x.flip(1);
        x.load();
        check.refused(x, "undo behind load", STATE, () -> x.undo());
        x.save(0);
        x.flip(1);
        x.restore(0);
        check.refused(x, "undo behind restore", STATE, () -> x.undo());
        x.flip(2);
        check.same("one action since", x.undo(), 0);
        check.same("the state restored", x.frozen(), 1L);
    }

    // ---- promises 11 to 15

    private static void size() {
        check.sentence(11, "- `rows`: 2 to 8");
        PaneFrost x = Looks.loaded(RICH);
        check.same("the least", x.size(2, 4), 8);
        check.same("the greatest", x.size(8, 4), 32);
        check.sentence(11, "- `cells`: 2 to 8, in a row");
        check.same("the least", x.size(4, 2), 8);
        check.same("the greatest", x.size(4, 8), 32);
        check.sentence(11, "Returns its cells, how many.");
        check.same("the fewest", x.size(2, 2), 4);
        check.same("the most", x.size(8, 8), 64);
        check.sentence(11, "Throws `IllegalArgumentException` if an argument is out of range");
        for (int[] wrong : new int[][] {{1, 2}, {9, 8}, {2, 1}, {8, 9}, {1, 1}, {9, 9}, {1, 9}, {0, 0}, {-2, -2}, {4, -4}}) {
            check.refused(x, "size(" + wrong[0] + ", " + wrong[1] + ")", ARGUMENT, () -> x.size(wrong[0], wrong[1]));
        }
        check.sentence(11, "Puts another window in: all cells are clear, without scratches, and all sides are dry; rule and nights stay.");
        for (int[] size : new int[][] {{3, 4}, {4, 3}, {2, 2}, {8, 8}}) {
            PaneFrost y = Looks.loaded(RICH);
            y.border(3, 1);
            y.size(size[0], size[1]);
            check.same("as new", Looks.whole(y), size[0] + " " + size[1] + " 0 0 2 2 0 0 0 0 0 0 0 -1 scratches"
                + " 0".repeat(size[0] * size[1]));
            y.border(0, 2);
            y.border(1, 2);
            check.same("no scratch over sides", y.about(3), 0);
            check.same("no frost comes", y.coming(60), 0L);
        }
    }

    private static void flip() {
        check.sentence(12, "- `k`: cell");
        check.same("the least", new PaneFrost().flip(0), 1);
        check.same("the greatest at first", new PaneFrost().flip(15), 1);
        check.same("the greatest of all", Looks.sized(8, 8).flip(63), 1);
        for (int[] size : new int[][] {{2, 2}, {3, 4}, {8, 8}}) {
            int last = size[0] * size[1] - 1;
            PaneFrost x = Looks.sized(size[0], size[1]);
            check.sentence(12, "Freezes a cell that is clear, thaws one that is frozen.");
            x.flip(0);
            check.same("the least freezes", x.frozen(), 1L);
            x.flip(last);
            check.same("the greatest freezes", x.frozen(), 1L | 1L << last);
            x.flip(0);
            check.same("the least thaws", x.frozen(), 1L << last);
            check.sentence(12, "Returns 1 if it is frozen then, otherwise 0.");
            check.same("thawed", x.flip(last), 0);
            check.same("frozen", x.flip(last), 1);
            check.sentence(12, "Throws `IndexOutOfBoundsException` if there is no such cell");
            check.refused(x, "one less", INDEX, () -> x.flip(-1));
            check.refused(x, "one more", INDEX, () -> x.flip(last + 1));
            check.refused(x, "the least number", INDEX, () -> x.flip(Integer.MIN_VALUE));
            check.refused(x, "the greatest number", INDEX, () -> x.flip(Integer.MAX_VALUE));
        }
    }

    private static void scratch() {
        check.sentence(13, "Makes a scratch between a cell and its neighbour, or polishes it away, if there is one.");
        int[] beside = {1, 5, 7, 3};
        for (int d = 0; d < 4; d++) {
            PaneFrost x = Looks.sized(3, 3);
            int back = (d + 2) % 4;
            check.same("made", x.scratch(4, d), 1);
            check.same("one", x.about(3), 1);
            check.same("polished", x.scratch(4, d), 0);
            check.same("none", x.about(3), 0);
            x.scratch(4, d);
            check.same("polished from there", x.scratch(beside[d], back), 0);
            check.same("none again", x.about(3), 0);
            check.same("made from there", x.scratch(beside[d], back), 1);
            check.same("seen from here", x.cell(4, 3), 1 << d);
        }
        check.sentence(13, "Returns 1 if there is a scratch then, otherwise 0.");
        PaneFrost y = Looks.loaded("W88b02b12");
        for (int k = 0; k < 64; k += 9) {
            for (int d = 0; d < 4; d++) {
                check.same("a scratch of " + k, y.scratch(k, d), 1);
            }
            check.same("all of " + k, y.cell(k, 3), 15);
            for (int d = 0; d < 4; d++) {
                check.same("no scratch of " + k, y.scratch(k, d), 0);
            }
        }
        check.same("no scratch at all", y.about(3), 0);
        check.sentence(13, "- `k`: cell");
        check.same("the least cell", y.scratch(0, 3), 1);
        check.same("the greatest cell", y.scratch(63, 1), 1);
        check.sentence(13, "- `d`: direction");
        check.same("the least", y.scratch(63, 0), 1);
        check.same("the greatest", y.scratch(63, 3), 1);
    }

    private static void scratchStays() {
        check.sentence(13, "(A scratch between two cells stays when sides change, but is no scratch of theirs while they are not neighbours over it.)");
        for (int each = 0; each < 4; each++) {
            int side = each;
            int k = new int[] {1, 5, 7, 3}[side];
            int far = new int[] {7, 3, 1, 5}[side];
            int opposite = (side + 2) % 4;
            for (int kind = 0; kind < 2; kind++) {
                PaneFrost x = Looks.loaded("W33b02b12s040");
                x.scratch(k, side);
                x.border(opposite, kind);
                check.same("no scratch of it", x.cell(k, 3) & 1 << side, 0);
                check.same("nor of the other", x.cell(far, 3) & 1 << opposite, 0);
                check.same("only the one within", x.about(3), 1);
                check.refused(x, "none to polish", STATE, () -> x.scratch(k, side));
                x.border(side, 2);
                check.same("its scratch again", x.cell(k, 3) & 1 << side, 1 << side);
                check.same("the other's again", x.cell(far, 3) & 1 << opposite, 1 << opposite);
                check.same("two", x.about(3), 2);
                check.same("polished", x.scratch(far, opposite), 0);
                x.border(side, kind);
                x.border(opposite, 2);
                check.same("it stays polished", x.cell(k, 3) & 1 << side, 0);
            }
            PaneFrost y = Looks.loaded("W33b02b12s040");
            y.border(side, 1);
            check.same("one within stays a scratch", y.cell(4, 3), 1);
        }
    }

    private static void scratchThrows() {
        PaneFrost x = Looks.sized(3, 3);
        check.sentence(13, "Throws `IndexOutOfBoundsException` if there is no such cell");
        check.refused(x, "one less", INDEX, () -> x.scratch(-1, 1));
        check.refused(x, "one more", INDEX, () -> x.scratch(9, 3));
        check.refused(x, "no cell, no direction", INDEX, () -> x.scratch(9, 4));
        check.refused(x, "no cell, no other direction", INDEX, () -> x.scratch(-1, -1));
        check.sentence(13, "Throws `IllegalArgumentException` if d is not 0 to 3");
        check.refused(x, "one less", ARGUMENT, () -> x.scratch(0, -1));
        check.refused(x, "one more", ARGUMENT, () -> x.scratch(0, 4));
        check.refused(x, "one more at the end", ARGUMENT, () -> x.scratch(8, 4));
        check.sentence(13, "Throws `IllegalStateException` if it has no cell as neighbour there");
        for (int rows = 2; rows <= 8; rows += 3) {
            for (int cells = 2; cells <= 8; cells += 3) {
                for (int kind = 0; kind <= 2; kind++) {
                    overEachSide(rows, cells, kind);
                }
            }
        }
    }

    private static void overEachSide(int rows, int cells, int kind) {
        int last = rows * cells - 1;
        int[][] ends = {{0, 0}, {cells - 1, 0}, {cells - 1, 1}, {last, 1}, {last, 2}, {last - cells + 1, 2}, {0, 3},
            {last - cells + 1, 3}};
        for (int[] end : ends) {
            PaneFrost x = Looks.sized(rows, cells);
            x.border(end[1], kind);
            if (kind == 2) {
                check.same("over a joined side", x.scratch(end[0], end[1]), 1);
            } else {
                check.refused(x, "over a side of kind " + kind, STATE, () -> x.scratch(end[0], end[1]));
                x.border((end[1] + 2) % 4, 1);
                check.refused(x, "with ice opposite", STATE, () -> x.scratch(end[0], end[1]));
            }
        }
    }

    private static void border() {
        check.sentence(14, "- `side`: 0 to 3");
        PaneFrost x = new PaneFrost();
        check.same("the least", x.border(0, 1), 0);
        check.same("the greatest", x.border(3, 1), 0);
        check.same("both, and no other", x.side(0) * 1000 + x.side(1) * 100 + x.side(2) * 10 + x.side(3), 1001);
        check.sentence(14, "- `kind`: 0 to 2");
        check.same("the greatest", x.border(0, 2), 1);
        check.same("the least", x.border(0, 0), 2);
        check.sentence(14, "Changes a side.");
        check.same("dry, both", x.side(0) + x.side(2), 0);
        x.border(2, 1);
        check.same("icy", x.side(2), 1);
        check.same("the opposite stays", x.side(0), 0);
        check.sentence(14, "If it becomes joined, the opposite one does, too; if it was joined, and becomes something else, the opposite one becomes that, too.");
        for (int side = 0; side < 4; side++) {
            for (int kind = 0; kind < 2; kind++) {
                PaneFrost y = new PaneFrost();
                int opposite = (side + 2) % 4;
                y.border(opposite, 1);
                check.same("joined from dry", y.border(side, 2), 0);
                check.same("the opposite one, too", y.side(opposite), 2);
                check.same("joined again changes nothing", y.border(opposite, 2), 2);
                check.same("both joined", y.side(side) + y.side(opposite), 4);
                check.same("something else", y.border(opposite, kind), 2);
                check.same("that, too", y.side(side), kind);
                check.same("no more together", y.border(side, 1 - kind), kind);
                check.same("the opposite one stays", y.side(opposite), kind);
            }
        }
        check.sentence(14, "Returns what it was.");
        PaneFrost z = Looks.loaded("W44b01");
        check.same("icy, not the opposite's dry", z.border(0, 2), 1);
        check.same("joined by the opposite", z.border(2, 0), 2);
        check.same("dry by the opposite", z.border(0, 0), 0);
        check.sentence(14, "Throws `IllegalArgumentException` if an argument is out of range");
        check.refused(z, "the side -1", ARGUMENT, () -> z.border(-1, 0));
        check.refused(z, "the side 4", ARGUMENT, () -> z.border(4, 0));
        check.refused(z, "the kind -1", ARGUMENT, () -> z.border(0, -1));
        check.refused(z, "the kind 3", ARGUMENT, () -> z.border(3, 3));
        check.refused(z, "both", ARGUMENT, () -> z.border(4, 3));
    }

    private static void rule() {
        check.sentence(15, "- `rule`: 0 to 2");
        PaneFrost x = new PaneFrost();
        check.same("the greatest", x.rule(2), 0);
        check.same("is there", x.about(4), 2);
        check.same("the least", x.rule(0), 2);
        check.same("is there", x.about(4), 0);
        check.sentence(15, "Changes the rule.");
        x.rule(1);
        check.same("one", x.about(4), 1);
        check.sentence(15, "Returns the previous one.");
        check.same("the same", x.rule(1), 1);
        check.same("another", x.rule(2), 1);
        check.same("the same again", x.rule(2), 2);
        check.sentence(15, "Throws `IllegalArgumentException` if rule is out of range");
        check.refused(x, "-1", ARGUMENT, () -> x.rule(-1));
        check.refused(x, "3", ARGUMENT, () -> x.rule(3));
    }

    // ---- promises 16 to 18

    private static void breathe() {
        check.sentence(16, "- `k`: cell");
        PaneFrost x = Looks.full(3, 4);
        check.same("the least", x.breathe(0, 0), 1);
        check.same("the greatest", x.breathe(11, 0), 1);
        check.same("those two", x.frozen(), 0x7FEL);
        check.sentence(16, "- `steps`: 0 to 9");
        check.same("none", x.breathe(5, 0), 1);
        check.same("nine", x.breathe(5, 9), 9);
        check.sentence(16, "Returns how many cells thaw.");
        check.same("none of the clear ones", x.breathe(5, 9), 0);
        x.flip(11);
        check.same("one", x.breathe(0, 9), 1);
        check.same("all", Looks.full(4, 4).breathe(0, 6), 16);
        check.same("all but one", Looks.full(4, 4).breathe(0, 5), 15);
        check.sentence(16, "Throws `IndexOutOfBoundsException` if there is no such cell");
        for (int steps : new int[] {-1, 0, 9, 10}) {
            check.refused(x, "one less", INDEX, () -> x.breathe(-1, steps));
            check.refused(x, "one more", INDEX, () -> x.breathe(12, steps));
        }
        check.sentence(16, "Throws `IllegalArgumentException` if steps is out of range");
        check.refused(x, "-1", ARGUMENT, () -> x.breathe(0, -1));
        check.refused(x, "10", ARGUMENT, () -> x.breathe(11, 10));
    }

    private static void breatheFar() {
        check.sentence(16, "Thaws a cell and all cells that are not farther from it than some steps, from neighbour to neighbour, frozen or clear");
        for (int steps = 0; steps <= 9; steps++) {
            for (int from : new int[] {0, 27, 63}) {
                PaneFrost x = Looks.full(8, 8);
                x.breathe(from, steps);
                check.same("left of all", x.frozen(), farther(from, steps, false));
                PaneFrost joined = Looks.full(8, 8);
                joined.border(0, 2);
                joined.border(3, 2);
                joined.breathe(from, steps);
                check.same("left of all, joined", joined.frozen(), farther(from, steps, true));
                PaneFrost sparse = Looks.sized(8, 8);
                int end = from == 63 ? 63 - steps : from + steps / 2 + 8 * (steps - steps / 2);
                if (end >= 0 && end < 64 && (farther(from, steps, false) >>> end & 1L) == 0L) {
                    sparse.flip(end);
                    check.same("over clear cells", sparse.breathe(from, steps), 1);
                }
            }
        }
    }

    private static long farther(int from, int steps, boolean isJoined) {
        long set = 0L;
        for (int k = 0; k < 64; k++) {
            int rows = Math.abs(k / 8 - from / 8);
            int places = Math.abs(k % 8 - from % 8);
            if (isJoined) {
                rows = Math.min(rows, 8 - rows);
                places = Math.min(places, 8 - places);
            }
            set |= rows + places > steps ? 1L << k : 0L;
        }
        return set;
    }

    private static void breatheOver() {
        check.sentence(16, "a step does not pass a scratch.");
        PaneFrost x = Looks.full(8, 8);
        Looks.windUp(x);
        check.same("nine steps of one way", x.breathe(0, 9), 10);
        check.same("round the first end", x.frozen(), ~Looks.set(0, 1, 2, 3, 4, 5, 6, 7, 15, 14));
        PaneFrost alone = Looks.loaded("W33f00f01f03f04s041s042s043s040");
        check.same("no way out", alone.breathe(4, 9), 1);
        check.same("no way in", alone.breathe(0, 9), 3);
        PaneFrost iced = Looks.full(3, 3);
        for (int side = 0; side < 4; side++) {
            iced.border(side, side % 2);
        }
        check.same("not over dry or icy sides", iced.breathe(0, 1), 3);
        for (int side = 0; side < 4; side++) {
            PaneFrost along = Looks.full(4, 4);
            along.border(side, 1);
            check.same("nor along the ice", along.breathe(side < 2 ? 3 : 12, 2), 6);
        }
        PaneFrost over = Looks.full(3, 3);
        over.border(0, 2);
        over.scratch(0, 0);
        check.same("not over a scratch of a side", over.breathe(0, 1), 3);
    }

    private static void nights() {
        check.sentence(17, "- `n`: 1 to 60");
        PaneFrost x = Looks.loaded("W88f27r2b02b12");
        PaneFrost y = Looks.loaded("W88f27r2b02b12");
        check.same("sixty", x.nights(60), Long.bitCount(y.coming(60)));
        for (int i = 0; i < 60; i++) {
            y.nights(1);
        }
        check.same("sixty of one", x.frozen(), y.frozen());
        check.same("are as many", x.about(5), y.about(5));
        check.sentence(17, "Lets nights go by.");
        check.same("sixty", x.about(5), 60);
        check.sentence(17, "Returns the frozen cells then, how many.");
        check.same("none", new PaneFrost().nights(1), 0);
        check.same("three", Looks.loaded("W44f00").nights(1), 3);
        check.same("all", Looks.full(8, 8).nights(60), 64);
        check.sentence(17, "Throws `IllegalArgumentException` if n is out of range");
        check.refused(x, "0", ARGUMENT, () -> x.nights(0));
        check.refused(x, "61", ARGUMENT, () -> x.nights(61));
        check.refused(x, "-1", ARGUMENT, () -> x.nights(-1));
    }

    private static void undo() {
        check.sentence(18, "Takes back the last action that is remembered.");
        PaneFrost x = new PaneFrost();
        x.flip(0);
        x.flip(1);
        x.undo();
        check.same("the last, not the first", x.frozen(), 1L);
        x.flip(2);
        x.undo();
        check.same("what came behind undo", x.frozen(), 1L);
        x.undo();
        check.same("the first", x.frozen(), 0L);
        check.sentence(18, "Throws `IllegalStateException` if none is remembered");
        check.refused(x, "none left", STATE, () -> x.undo());
        PaneFrost y = new PaneFrost();
        check.refused(y, "none yet", STATE, () -> y.undo());
        check.sentence(18, "Returns how many states are still remembered.");
        for (int i = 0; i < 13; i++) {
            y.flip(i);
        }
        check.same("of thirteen", y.undo(), 12);
        y.flip(13);
        y.flip(14);
        check.same("of fourteen", y.undo(), 13);
        y.flip(13);
        y.flip(14);
        check.same("of one more", y.undo(), 13);
        check.same("NONE is never an answer", y.undo() == NONE, false);
    }
}
