/** What a test does with an object again and again. */
final class Looks {
    private Looks() {
    }

    /** What there is to see of the window, the text's error too, in 14 calls. */
    static String of(PaneFrost x) {
        StringBuilder all = new StringBuilder();
        for (int what = 0; what < 8; what++) {
            all.append(x.about(what)).append(' ');
        }
        for (int side = 0; side < 4; side++) {
            all.append(x.side(side)).append(' ');
        }
        return all.append(Long.toHexString(x.frozen())).append(' ').append(x.errorPosition()).toString();
    }

    /** The same, and the scratches, in as many calls more as there are cells. */
    static String whole(PaneFrost x) {
        StringBuilder all = new StringBuilder(of(x)).append(" scratches");
        int count = x.about(0) * x.about(1);
        for (int k = 0; k < count; k++) {
            all.append(' ').append(x.cell(k, 3));
        }
        return all.toString();
    }

    /** All that can be seen of an object, in some 300 calls for 12 cells that leave nothing of it as it was. */
    static String deep(PaneFrost x) {
        StringBuilder all = new StringBuilder(whole(x));
        while (canUndo(x, all)) {
            all.append(" undone ").append(brief(x));
        }
        for (int slot = 0; slot < 2; slot++) {
            if (canRestore(x, slot, all)) {
                all.append(" restored ").append(whole(x));
            }
        }
        all.append(" text ").append(x.errorPosition());
        if (x.errorPosition() == PaneFrost.NONE) {
            all.append(' ').append(x.load()).append(' ').append(whole(x));
        }
        return all.append(' ').append(x.clearText()).toString();
    }

    private static String brief(PaneFrost x) {
        StringBuilder all = new StringBuilder(Long.toHexString(x.frozen()));
        for (int what : new int[] {0, 1, 3, 4, 5}) {
            all.append(' ').append(x.about(what));
        }
        return all.append(' ').append(1000 * x.side(0) + 100 * x.side(1) + 10 * x.side(2) + x.side(3)).toString();
    }

    private static boolean canUndo(PaneFrost x, StringBuilder all) {
        try {
            all.append(' ').append(x.undo());
            return true;
        } catch (IllegalStateException e) {
            return false;
        }
    }

    private static boolean canRestore(PaneFrost x, int slot, StringBuilder all) {
        try {
            all.append(' ').append(x.restore(slot));
            return true;
        } catch (IllegalStateException e) {
            return false;
        }
    }

    static void write(PaneFrost x, String text) {
        for (int i = 0; i < text.length(); i++) {
            x.append(text.charAt(i));
        }
    }

    static PaneFrost written(String text) {
        PaneFrost x = new PaneFrost();
        write(x, text);
        return x;
    }

    static PaneFrost loaded(String text) {
        PaneFrost x = written(text);
        x.load();
        return x;
    }

    /** The frozen cells of now and behind 1 to n nights; no object is used for more than 512 calls. */
    static long[] ahead(String text, int n) {
        long[] sets = new long[n + 1];
        PaneFrost x = loaded(text);
        sets[0] = x.frozen();
        for (int i = 1; i <= n; i++) {
            if (i % 180 == 0) {
                x = behind(text, i - 60);
                x.nights(59);
            }
            x.nights(1);
            sets[i] = x.frozen();
        }
        return sets;
    }

    private static PaneFrost behind(String text, int nights) {
        PaneFrost x = loaded(text);
        for (int i = 0; i < nights; i += 60) {
            x.nights(60);
        }
        return x;
    }

    static PaneFrost sized(int rows, int cells) {
        return loaded("W" + rows + cells);
    }

    /** A window of which each cell is frozen. */
    static PaneFrost full(int rows, int cells) {
        PaneFrost x = sized(rows, cells);
        for (int k = 0; k < rows * cells; k++) {
            x.flip(k);
        }
        return x;
    }

    /** Scratches an 8 by 8 window to one way from the cell 0 to and fro through all rows to the cell 56. */
    static void windUp(PaneFrost x) {
        for (int r = 0; r < 7; r++) {
            int open = r % 2 == 0 ? 7 : 0;
            for (int c = 0; c < 8; c++) {
                if (c != open) {
                    x.scratch(8 * r + c, 2);
                }
            }
        }
    }

    /** Makes each scratch that there can be. */
    static void scratchAll(PaneFrost x, int rows, int cells) {
        for (int k = 0; k < rows * cells; k++) {
            for (int d = 1; d <= 2; d++) {
                if (x.neighbour(k, d) != PaneFrost.NONE) {
                    x.scratch(k, d);
                }
            }
        }
    }

    static long set(int... cells) {
        long set = 0L;
        for (int k : cells) {
            set |= 1L << k;
        }
        return set;
    }
}
