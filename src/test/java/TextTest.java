/** Promises 1 to 5. */
public final class TextTest {
    private static final Class<IllegalArgumentException> ARGUMENT = IllegalArgumentException.class;
    private static final Class<IllegalStateException> STATE = IllegalStateException.class;
    private static final Check check = new Check("TextTest");

    public static void main(String[] args) {
        aNewObject();
        append();
        clearText();
        errorPosition();
        load();
        loadCommands();
        loadRefused();
        check.close();
    }

    private static void aNewObject() {
        PaneFrost x = new PaneFrost();
        check.same("NONE", PaneFrost.NONE, -1);
        check.same("a new object", Looks.of(x), "4 4 0 0 0 0 0 0 0 0 0 0 0 0");
        check.refused(x, "undo of nothing", STATE, () -> x.undo());
        check.refused(x, "restore(0) of nothing", STATE, () -> x.restore(0));
        check.refused(x, "restore(1) of nothing", STATE, () -> x.restore(1));
        check.same("no text", x.clearText(), 0);
        int[][] beside = {{-1, 1, 4, -1}, {1, 6, 9, 4}, {11, -1, -1, 14}};
        for (int i = 0; i < 3; i++) {
            int k = new int[] {0, 5, 15}[i];
            for (int d = 0; d < 4; d++) {
                check.same("neighbour(" + k + ", " + d + ") at first", x.neighbour(k, d), beside[i][d]);
            }
        }
        PaneFrost night = new PaneFrost();
        night.flip(3);
        check.same("a first night", night.nights(1), 3);
        check.same("its frost", night.frozen(), Looks.set(2, 3, 7));
        PaneFrost other = new PaneFrost();
        x.flip(3);
        check.same("another object stays", other.frozen(), 0L);
    }

    private static void append() {
        PaneFrost x = new PaneFrost();
        check.same("append first", x.append('W'), 1);
        check.same("append 0", x.append(0), 2);
        check.same("append 255", x.append(255), 3);
        for (int c : new int[] {-1, 256, Integer.MIN_VALUE, Integer.MAX_VALUE}) {
            check.refused(x, "append(" + c + ")", ARGUMENT, () -> x.append(c));
        }
        for (int i = 3; i < 119; i++) {
            x.append('f');
        }
        check.same("append the last", x.append('z'), 120);
        check.refused(x, "append to a full text", STATE, () -> x.append('z'));
        check.refused(x, "append a wrong one to a full text", ARGUMENT, () -> x.append(256));
        check.same("the length still", x.clearText(), 120);
        PaneFrost y = new PaneFrost();
        Looks.write(y, "W44");
        y.append('f' + 256 - 256);
        check.refused(y, "append('0' + 256)", ARGUMENT, () -> y.append('0' + 256));
        check.same("the text is as before", y.errorPosition(), 4);
    }

    private static void clearText() {
        PaneFrost x = Looks.loaded("W33f04");
        check.same("clearText", x.clearText(), 6);
        check.same("clearText again", x.clearText(), 0);
        check.same("the window stays", x.frozen(), 16L);
        check.same("no text", x.errorPosition(), 0);
        check.same("append then", x.append('W'), 1);
        check.same("no old signs behind", x.errorPosition(), 1);
        PaneFrost full = new PaneFrost();
        Looks.write(full, "f".repeat(120));
        check.same("a full text", full.clearText(), 120);
        check.same("append then", full.append('W'), 1);
    }

    private static void errorPosition() {
        allowed("W22", "W88", "W28", "W82", "W44f00", "W44f63", "W44f59", "W22f63", "W44s000", "W44s633", "W44b00",
                "W44b32", "W44r0", "W44r2", "W44t000", "W44t639", "W44n01", "W44n09", "W44n10", "W44n60",
                "W44f01s012b11r1t055n20f02");
        notAllowed(0, "", "w44", " W44", "4", "\u0000", "f00");
        notAllowed(1, "W", "W1", "W9", "W0", "W14", "W94", "WW", "W ", "W/4", "W:4");
        notAllowed(2, "W4", "W41", "W49", "W40", "W4f", "W4 4", "W4\u00ff");
        notAllowed(3, "W44x", "W44 ", "W440", "W44W", "W44F00", "W44\u0000", "W44q00", "W44e");
        notAllowed(4, "W44f", "W44f7", "W44f9", "W44f:", "W44f/", "W44fa", "W44s", "W44s70", "W44b", "W44b4", "W44b/",
                "W44r", "W44r3", "W44r9", "W44r/", "W44t", "W44t7", "W44n", "W44n7", "W44n9", "W44nx", "W44f 1");
        notAllowed(5, "W44f0", "W44f6", "W44f64", "W44f69", "W44f0x", "W44s6", "W44s64", "W44b0", "W44b03", "W44b39",
                "W44b0x", "W44t6", "W44t64", "W44n0", "W44n00", "W44n6", "W44n61", "W44n69", "W44n0x", "W44r00");
        notAllowed(6, "W44f000", "W44s00", "W44s004", "W44s009", "W44s00x", "W44t00", "W44t00x", "W44b000", "W44n010");
        notAllowed(8, "W44r0r1r3", "W44r0r1r", "W44f63r01");
        notAllowed(11, "W44f63f63f6x", "W44f63f63f6");
        String full = "W88" + "f63".repeat(39);
        allowed(full);
        notAllowed(119, full.substring(0, 119), full.substring(0, 119) + "4");
        PaneFrost x = new PaneFrost();
        x.errorPosition();
        check.same("errorPosition changes no text", x.append('W'), 1);
    }

    private static void allowed(String... texts) {
        notAllowed(PaneFrost.NONE, texts);
    }

    private static void notAllowed(int position, String... texts) {
        for (String text : texts) {
            PaneFrost x = new PaneFrost();
            Looks.write(x, text);
            check.same("errorPosition of " + text, x.errorPosition(), position);
            if (position != PaneFrost.NONE) {
                check.refused(x, "load of " + text, STATE, () -> x.load());
            }
        }
    }

    private static void load() {
        PaneFrost x = new PaneFrost();
        x.border(0, 2);
        x.border(1, 1);
        x.rule(2);
        x.flip(5);
        x.scratch(5, 1);
        x.scratch(5, 2);
        x.nights(7);
        x.save(0);
        x.save(1);
        Looks.write(x, "W35");
        check.same("nothing left out", x.load(), 0);
        check.same("all is new", Looks.of(x), "3 5 0 0 0 0 0 0 0 0 0 0 0 -1");
        check.refused(x, "nothing to undo", STATE, () -> x.undo());
        check.refused(x, "no first slot", STATE, () -> x.restore(0));
        check.refused(x, "no second slot", STATE, () -> x.restore(1));
        x.border(1, 2);
        x.border(0, 2);
        check.same("no old scratches", x.about(3), 0);
        check.same("load again", x.load(), 0);
        check.same("new again", Looks.of(x), "3 5 0 0 0 0 0 0 0 0 0 0 0 -1");
        check.same("the text is kept", x.clearText(), 3);
    }

    private static void loadCommands() {
        PaneFrost x = Looks.loaded("W33f00f04s041b32b01r2n03");
        PaneFrost y = new PaneFrost();
        y.size(3, 3);
        y.flip(0);
        y.flip(4);
        y.scratch(4, 1);
        y.border(3, 2);
        y.border(0, 1);
        y.rule(2);
        y.nights(3);
        check.same("frozen as by calls", x.frozen(), y.frozen());
        check.same("nights", x.about(5), 3);
        check.same("rule", x.about(4), 2);
        check.same("scratches", x.about(3), 1);
        check.same("the scratch", x.cell(4, 3), 2);
        check.same("sides", x.side(0) * 1000 + x.side(1) * 100 + x.side(2) * 10 + x.side(3), 1202);
        check.refused(x, "commands are not to undo", STATE, () -> x.undo());
        leftOut("W33f09f08f63", 2, 0x100L);
        leftOut("W33s000s090s013s001", 2, 0L);
        leftOut("W33b02s000s003", 1, 0L);
        leftOut("W33t090t080t639", 2, 0L);
        leftOut("W88f63t639", 0, 0L);
        leftOut("W22f00f01f02f03t001", 0, 0x8L);
        leftOut("W22f04n60r2r0b12b10", 1, 0L);
        leftOut("W22f00f00f00n01", 0, 7L);
        leftOut("W22f00r1n01", 0, 6L);
        PaneFrost z = Looks.loaded("W22n60n60n60");
        check.same("180 nights", z.about(5), 180);
    }

    private static void leftOut(String text, int count, long frozen) {
        PaneFrost x = new PaneFrost();
        Looks.write(x, text);
        check.same("left out of " + text, x.load(), count);
        check.same("frozen by " + text, x.frozen(), frozen);
    }

    private static void loadRefused() {
        PaneFrost x = new PaneFrost();
        x.flip(1);
        x.save(1);
        x.flip(2);
        Looks.write(x, "W33f00f6");
        check.refused(x, "load of no window", STATE, () -> x.load());
        check.same("undo is still there", x.undo(), 1);
        check.same("the state before", x.frozen(), 2L);
        x.flip(5);
        check.same("the slot is still there", x.restore(1), 0);
        check.same("the state of the slot", x.frozen(), 2L);
    }
}
