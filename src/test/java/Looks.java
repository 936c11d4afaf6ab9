/** What a test does with an object again and again. */
final class Looks {
    private Looks() {
    }

    /** What there is to see of the window, the text's error too, in 14 calls. */
    static String of(PaneFrost x) {
        StringBuilder all = new StringBuilder();
        for (int what = 0; what < 8; what++) {
            all.append(x.about(what)).append(' ');
        }
        for (int side = 0; side < 4; side++) {
            all.append(x.side(side)).append(' ');
        }
        return all.append(Long.toHexString(x.frozen())).append(' ').append(x.errorPosition()).toString();
    }

    static void write(PaneFrost x, String text) {
        for (int i = 0; i < text.length(); i++) {
            x.append(text.charAt(i));
        }
    }

    static PaneFrost loaded(String text) {
        PaneFrost x = new PaneFrost();
        write(x, text);
        x.load();
        return x;
    }

    /** Scratches an 8 by 8 window to one way from the cell 0 to and fro through all rows to the cell 56. */
    static void windUp(PaneFrost x) {
        for (int r = 0; r < 7; r++) {
            int open = r % 2 == 0 ? 7 : 0;
            for (int c = 0; c < 8; c++) {
                if (c != open) {
                    x.scratch(8 * r + c, 2);
                }
            }
        }
    }

    static long set(int... cells) {
        long set = 0L;
        for (int k : cells) {
            set |= 1L << k;
        }
        return set;
    }
}
