/** What a test does with an object again and again. */
final class Looks {
    private Looks() {
    }

    /** What there is to see of the window, the text's error too, in 14 calls. */
    static String of(PaneFrost x) {
        StringBuilder all = new StringBuilder();
        for (int what = 0; what < 8; what++) {
            all.append(x.about(what)).append(' ');
        }
        for (int side = 0; side < 4; side++) {
            all.append(x.side(side)).append(' ');
        }
        return all.append(Long.toHexString(x.frozen())).append(' ').append(x.errorPosition()).toString();
    }

    static void write(PaneFrost x, String text) {
        for (int i = 0; i < text.length(); i++) {
            x.append(text.charAt(i));
        }
    }

    static PaneFrost loaded(String text) {
        PaneFrost x = new PaneFrost();
        write(x, text);
        x.load();
        return x;
    }

    static long set(int... cells) {
        long set = 0L;
        for (int k : cells) {
            set |= 1L << k;
        }
        return set;
    }
}
