/** Promises 25 to 28. */
public final class ScriptTest {
    private static final Class<IllegalArgumentException> ARGUMENT = IllegalArgumentException.class;
    private static final Class<IndexOutOfBoundsException> INDEX = IndexOutOfBoundsException.class;
    private static final Class<IllegalStateException> STATE = IllegalStateException.class;
    private static final Check check = new Check("ScriptTest");

    public static void main(String[] args) {
        scriptActions();
        scriptQuestions();
        scriptOrder();
        scriptRefused();
        simulate();
        simulateRefused();
        save();
        restore();
        check.close();
    }

    private static void script(String text, int n, long script, int due) {
        PaneFrost x = Looks.loaded(text);
        String looks = Looks.of(x);
        check.same("runScript(" + n + ", " + script + ") of " + text, x.runScript(n, script), due);
        check.same("nothing changed", Looks.of(x), looks);
        check.refused(x, "nothing to undo", STATE, () -> x.undo());
    }

    private static void scriptActions() {
        succeed("W33", 1000L, 1080L, 2001L, 2083L, 3000L, 3032L, 3021L, 4000L, 4002L, 5001L, 5060L, 6000L, 6089L);
        fail("W33", 1090L, 1630L, 1990L, 1001L, 1009L, 2000L, 2003L, 2004L, 2091L, 2009L, 3003L, 3040L, 3100L, 3132L,
                4003L, 4010L, 4100L, 5000L, 5061L, 5099L, 5101L, 6090L, 6999L, 0L, 1L, 999L);
        script("W33", 2, 10407041L, PaneFrost.NONE);
        script("W33f04", 2, 10407041L, 1);
        script("W33f04", 2, 10407040L, PaneFrost.NONE);
        script("W33f01", 2, 20138000L, PaneFrost.NONE);
        script("W33f01", 2, 20118000L, 1);
        script("W33f01", 2, 20128000L, 1);
        script("W33f01", 3, 200180018000L, 1);
        script("W33f01", 2, 20018000L, PaneFrost.NONE);
        script("W33", 2, 30018001L, PaneFrost.NONE);
        script("W33", 2, 30028000L, PaneFrost.NONE);
        script("W33f02", 2, 30128001L, PaneFrost.NONE);
        script("W33f04", 3, 400150017040L, PaneFrost.NONE);
        script("W33f04", 3, 400050017040L, 2);
        script("W33f04", 2, 50019005L, PaneFrost.NONE);
        script("W33f04", 2, 60419001L, 1);
        script("W33f04", 2, 60119001L, 1);
        script("W33f04", 2, 60109001L, PaneFrost.NONE);
        script("W33f04", 2, 50017041L, PaneFrost.NONE);
        script("W88", 2, 16307631L, PaneFrost.NONE);
        script("W33", 2, 30022000L, PaneFrost.NONE);
    }

    private static void succeed(String text, long... groups) {
        for (long group : groups) {
            script(text, 1, group, PaneFrost.NONE);
        }
    }

    private static void fail(String text, long... groups) {
        for (long group : groups) {
            script(text, 1, group, 0);
        }
    }

    private static void scriptQuestions() {
        succeed("W33f04f08", 7041L, 7000L, 8012L - 1L, 8001L - 1L, 8052L, 9000L, 9001L, 9002L);
        fail("W33f04f08", 7040L, 7001L, 7042L, 7009L, 7091L, 7090L, 8012L, 8051L, 8090L, 8640L, 8009L, 9003L, 9099L,
                9100L, 9101L);
        succeed("W33f01f03f05f07", 8044L);
        fail("W33f01f03f05f07", 8040L, 8043L, 8045L);
        succeed("W88f63", 7631L);
        fail("W88f63", 7641L, 7640L, 8640L);
    }

    private static void scriptOrder() {
        script("W33", 3, 100010101020L, PaneFrost.NONE);
        script("W33", 3, 109010901090L, 0);
        script("W33", 3, 100010901090L, 1);
        script("W33", 3, 100010001090L, 2);
        script("W33", 3, 10001000L, 0);
        script("W33", 2, 1000L, 0);
        script("W33", 3, 100090019001L, PaneFrost.NONE);
        script("W33", 3, 900110009001L, 0);
        script("W33", 3, 0L, 0);
        script("W33", 3, 100090029000L, 1);
    }

    private static void scriptRefused() {
        PaneFrost x = Looks.loaded("W33f04");
        for (int n : new int[] {0, 4, -1, Integer.MIN_VALUE, Integer.MAX_VALUE}) {
            check.refused(x, "runScript(" + n + ", 0)", ARGUMENT, () -> x.runScript(n, 0L));
        }
        check.refused(x, "a negative script", ARGUMENT, () -> x.runScript(1, -1L));
        check.refused(x, "the least script", ARGUMENT, () -> x.runScript(3, Long.MIN_VALUE));
        check.refused(x, "the greatest script", ARGUMENT, () -> x.runScript(3, Long.MAX_VALUE));
        check.refused(x, "five digits", ARGUMENT, () -> x.runScript(1, 10000L));
        check.refused(x, "nine digits", ARGUMENT, () -> x.runScript(2, 100000000L));
        check.refused(x, "thirteen digits", ARGUMENT, () -> x.runScript(3, 1000000000000L));
        check.same("four digits", x.runScript(1, 9999L), 0);
        check.same("eight digits", x.runScript(2, 99999999L), 0);
        check.same("twelve digits", x.runScript(3, 999999999999L), 0);
    }

    private static void simulate() {
        String[] texts = {"W44f05f06", "W22f00", "W88f00f63b01b12", "W37f10f11s101r2", "W82f03b11r1"};
        long[] seeds = {0L, 1L, -1L, 42L, Long.MIN_VALUE, Long.MAX_VALUE, 1234567890123456789L, -987654321L};
        for (String text : texts) {
            for (long seed : seeds) {
                for (int m : new int[] {1, 2, 7, 30, 60}) {
                    simulated(text, seed, m);
                }
            }
        }
    }

    private static void simulated(String text, long seed, int m) {
        PaneFrost x = Looks.loaded(text);
        String looks = Looks.of(x);
        int got = x.simulate(seed, m);
        check.same("simulate changes nothing", Looks.of(x), looks);
        check.refused(x, "nothing to undo", STATE, () -> x.undo());
        PaneFrost y = Looks.loaded(text);
        long turn = seed;
        for (int i = 0; i < m; i++) {
            turn = turn * 6364136223846793005L + 1442695040888963407L;
            takeTurn(y, (int) (turn >>> 33));
        }
        check.same("simulate(" + seed + ", " + m + ") of " + text, got, 100 * y.about(2) + y.about(6));
    }

    private static void takeTurn(PaneFrost y, int r) {
        int q = r / 8;
        try {
            if (r % 8 <= 2) {
                y.flip(q % 64);
            } else if (r % 8 == 3) {
                y.scratch(q % 64, q / 64 % 4);
            } else if (r % 8 == 4 && q / 16 % 3 == 0) {
                y.border(q % 4, q / 4 % 3);
            } else if (r % 8 == 4) {
                y.breathe(q / 64 % 64, q % 4);
            } else if (r % 8 == 5) {
                y.rule(q % 3);
            } else {
                y.nights(1 + q % 6);
            }
        } catch (IndexOutOfBoundsException | IllegalStateException e) {
            return;
        }
    }

    private static void simulateRefused() {
        PaneFrost x = Looks.loaded("W33f04");
        for (int m : new int[] {0, 61, -1, Integer.MIN_VALUE, Integer.MAX_VALUE}) {
            check.refused(x, "simulate(5, " + m + ")", ARGUMENT, () -> x.simulate(5L, m));
        }
    }

    private static void save() {
        PaneFrost x = Looks.loaded("W33f04n02");
        check.same("save", x.save(0), 2);
        check.refused(x, "save is not to undo", STATE, () -> x.undo());
        x.nights(5);
        check.same("save into the other", x.save(1), 7);
        check.same("restore the first", x.restore(0), 2);
        check.same("restore the other", x.restore(1), 7);
        x.nights(1);
        check.same("save over it", x.save(1), 8);
        check.same("restore it", x.restore(1), 8);
        for (int slot : new int[] {-1, 2, Integer.MIN_VALUE, Integer.MAX_VALUE}) {
            check.refused(x, "save(" + slot + ")", INDEX, () -> x.save(slot));
            check.refused(x, "restore(" + slot + ")", INDEX, () -> x.restore(slot));
        }
    }

    private static void restore() {
        PaneFrost x = Looks.loaded("W34f05f06s051b02s000r2n03");
        check.refused(x, "restore of nothing", STATE, () -> x.restore(0));
        String looks = Looks.of(x);
        x.save(0);
        check.refused(x, "restore of the other", STATE, () -> x.restore(1));
        x.size(5, 5);
        x.rule(1);
        x.flip(20);
        x.border(3, 1);
        x.nights(9);
        check.same("restore", x.restore(0), 3);
        check.same("the state of the slot", Looks.of(x), looks);
        check.same("its scratch", x.cell(8, 3), 4);
        check.refused(x, "nothing is remembered", STATE, () -> x.undo());
        x.flip(0);
        check.same("an action since", x.undo(), 0);
        x.flip(1);
        check.refused(x, "a wrong slot", INDEX, () -> x.restore(2));
        check.refused(x, "an empty slot", STATE, () -> x.restore(1));
        check.same("is still remembered", x.undo(), 0);
        x.nights(1);
        check.same("the slot keeps it", x.restore(0), 3);
        check.same("the state once more", Looks.of(x), looks);
        x.load();
        check.refused(x, "emptied by load", STATE, () -> x.restore(0));
    }
}
