/** The edges that the document names: promises 25 to 28, a sentence each. */
public final class ScriptEdgesTest {
    private static final Class<IllegalArgumentException> ARGUMENT = IllegalArgumentException.class;
    private static final Class<IndexOutOfBoundsException> INDEX = IndexOutOfBoundsException.class;
    private static final Class<IllegalStateException> STATE = IllegalStateException.class;
    private static final int NONE = PaneFrost.NONE;
    private static final long FACTOR = 6364136223846793005L;
    private static final long SUMMAND = 1442695040888963407L;
    private static final Check check = new Check("ScriptEdgesTest");

    private interface Wished {
        boolean is(int r);
    }

    public static void main(String[] args) {
        onACopy();
        order();
        flips();
        scratches();
        borders();
        rules();
        nights();
        breaths();
        frozenCells();
        colds();
        atLeast();
        eachGroup();
        failures();
        decimal();
        numberOfCommands();
        scriptTooLong();
        answers();
        simulateOnACopy();
        simulateSeeds();
        simulateTurns();
        simulateLeavesOut();
        simulateAnswers();
        simulateThrows();
        save();
        restore();
        restoreForgets();
        restoreThrows();
        check.close();
    }

    private static void runs(String text, int n, long script, int due) {
        check.same("runScript(" + n + ", " + script + ") of " + text, Looks.loaded(text).runScript(n, script), due);
    }

    // ---- promise 25

    private static void onACopy() {
        check.sentence(25, "Runs a script on a copy of the state.");
        PaneFrost x = Looks.loaded("W33f04b02s000");
        PaneFrost y = Looks.loaded("W33f04b02s000");
        for (long script : new long[] {100020013001L, 400250606049L, 704110007001L, 203060603032L}) {
            x.runScript(3, script);
        }
        check.same("each begins with the state", x.runScript(3, 704180008011L), NONE);
        runs("W33f06b02s000b00", 2, 30028000L, NONE);
        runs("W33f06b02b00", 2, 30028001L, NONE);
        runs("W33f02b12s003b10", 2, 30128000L, NONE);
        runs("W33f02b12b10", 2, 30328001L, NONE);
        check.same("nothing changed", Looks.deep(x), Looks.deep(y));
    }

    private static void order() {
        check.sentence(25, "A script has 1 to 3 commands; each is a group of four decimal digits d1 to d4, and the first command is the highest group of the number (with zeros before it, if it has fewer digits).");
        runs("W33", 1, 7000L, NONE);
        runs("W33", 2, 10007001L, NONE);
        runs("W33", 2, 70011000L, 0);
        runs("W33", 3, 100010007000L, NONE);
        runs("W33", 3, 700010007001L, NONE);
        runs("W33", 3, 700010007000L, 2);
        runs("W33", 2, 7000L, 0);
        runs("W33", 3, 7000L, 0);
        runs("W33", 3, 70007000L, 0);
        runs("W33", 2, 10000L + 7000L, 0);
    }

    private static void flips() {
        check.sentence(25, "1 k k 0: flip(kk).");
        runs("W34", 2, 10007001L, NONE);
        runs("W34f00", 2, 10007000L, NONE);
        runs("W34", 2, 11107111L, NONE);
        runs("W34", 1, 1120L, 0);
        runs("W88", 2, 16307631L, NONE);
        runs("W88", 1, 1640L, 0);
        runs("W88", 1, 1990L, 0);
        for (int last = 1; last <= 9; last++) {
            runs("W34", 1, 1000L + last, 0);
        }
    }

    private static void scratches() {
        check.sentence(25, "2 k k d: scratch(kk, d).");
        int[] beside = {1, 5, 7, 3};
        for (int d = 0; d < 4; d++) {
            String text = "W33f04";
            long asks = 8001L + 10 * beside[d];
            runs(text, 1, asks, NONE);
            runs(text, 2, (2040L + d) * 10000L + asks, 1);
            runs(text, 2, (2040L + d) * 10000L + asks - 1L, NONE);
            runs(text, 3, ((2040L + d) * 10000L + 2040L + d) * 10000L + asks, NONE);
        }
        runs("W33", 1, 2044L, 0);
        runs("W33", 1, 2049L, 0);
        runs("W33", 1, 2000L, 0);
        runs("W33b01", 1, 2000L, 0);
        runs("W33b02", 1, 2000L, NONE);
        runs("W33", 1, 2083L, NONE);
        runs("W33", 1, 2093L, 0);
        runs("W88b12", 1, 2631L, NONE);
        runs("W88b12", 1, 2641L, 0);
    }

    private static void borders() {
        check.sentence(25, "3 0 s v: border(s, v).");
        for (int side = 0; side < 4; side++) {
            long asks = 8001L + 10 * new int[] {1, 5, 7, 3}[side];
            runs("W33", 2, (3001L + 10 * side) * 10000L + asks, NONE);
            runs("W33b01b11b21b31", 2, (3000L + 10 * side) * 10000L + asks - 1L, NONE);
            runs("W33", 2, (3002L + 10 * side) * 10000L + 2003L, side % 2 == 0 ? 1 : NONE);
            runs("W33", 2, (3002L + 10 * side) * 10000L + 2000L, side % 2 == 0 ? NONE : 1);
            for (int kind = 3; kind <= 9; kind++) {
                runs("W33", 1, 3000L + 10 * side + kind, 0);
            }
        }
        for (int side = 4; side <= 9; side++) {
            runs("W33", 1, 3000L + 10 * side, 0);
        }
        for (int second = 1; second <= 9; second++) {
            runs("W33", 1, 3000L + 100 * second, 0);
        }
    }

    private static void rules() {
        check.sentence(25, "4 0 0 r: rule(r).");
        runs("W33f04r2", 3, 400050017041L, NONE);
        runs("W33f04r2", 3, 400150017040L, NONE);
        runs("W33f04f01r0", 3, 400250017040L, NONE);
        runs("W33f04f01r1", 3, 400050017041L, NONE);
        for (int rule = 3; rule <= 9; rule++) {
            runs("W33", 1, 4000L + rule, 0);
        }
        for (int digit = 1; digit <= 9; digit++) {
            runs("W33", 1, 4000L + 10 * digit, 0);
            runs("W33", 1, 4000L + 100 * digit, 0);
        }
    }

    private static void nights() {
        check.sentence(25, "5 0 n n: nights(nn).");
        runs("W28f00", 2, 50019003L, NONE);
        runs("W28f00", 2, 50019004L, 1);
        runs("W28f00", 2, 50029004L, NONE);
        runs("W28f00", 2, 50029005L, 1);
        runs("W22f00s002s012r1", 2, 50597011L, NONE);
        runs("W22f00s002s012r1", 2, 50607011L, 1);
        runs("W22", 1, 5000L, 0);
        runs("W22", 1, 5001L, NONE);
        runs("W22", 1, 5060L, NONE);
        runs("W22", 1, 5061L, 0);
        runs("W22", 1, 5099L, 0);
        for (int digit = 1; digit <= 9; digit++) {
            runs("W22", 1, 5001L + 100 * digit, 0);
        }
    }

    private static void breaths() {
        check.sentence(25, "6 k k s: breathe(kk, s).");
        runs("W22f00f01f02f03", 2, 60009003L, NONE);
        runs("W22f00f01f02f03", 2, 60009004L, 1);
        runs("W22f00f01f02f03", 2, 60019001L, NONE);
        runs("W22f00f01f02f03", 2, 60019002L, 1);
        runs("W22f00f01f02f03", 2, 60029001L, 1);
        runs("W88f36f37f38", 2, 60099001L, NONE);
        runs("W88f36f37f38", 2, 60099002L, 1);
        runs("W22", 1, 6039L, NONE);
        runs("W22", 1, 6049L, 0);
        runs("W88", 1, 6639L, NONE);
        runs("W88", 1, 6640L, 0);
    }

    private static void frozenCells() {
        check.sentence(25, "7 k k f: succeeds if f is 1 and the cell kk is frozen, or f is 0 and it is clear.");
        runs("W33f08", 1, 7081L, NONE);
        runs("W33f08", 1, 7080L, 0);
        runs("W33f08", 1, 7000L, NONE);
        runs("W33f08", 1, 7001L, 0);
        for (int f = 2; f <= 9; f++) {
            runs("W33f08", 1, 7080L + f, 0);
            runs("W33f08", 1, 7000L + f, 0);
        }
        runs("W33f08", 1, 7090L, 0);
        runs("W33f08", 1, 7091L, 0);
        runs("W88", 1, 7630L, NONE);
        runs("W88", 1, 7640L, 0);
        runs("W88", 1, 7990L, 0);
    }

    private static void colds() {
        check.sentence(25, "8 k k c: succeeds if the cold of the cell kk is c.");
        String[] texts = {"W33", "W33f01", "W33f01f03", "W33f01f03f05", "W33f01f03f05f07"};
        for (int cold = 0; cold <= 4; cold++) {
            for (int c = 0; c <= 9; c++) {
                runs(texts[cold], 1, 8040L + c, c == cold ? NONE : 0);
            }
        }
        runs("W33b01b31", 1, 8002L, NONE);
        runs("W33", 1, 8080L, NONE);
        runs("W33", 1, 8090L, 0);
        runs("W88", 1, 8630L, NONE);
        runs("W88", 1, 8640L, 0);
    }

    private static void atLeast() {
        check.sentence(25, "9 0 n n: succeeds if at least nn cells are frozen.");
        runs("W33", 1, 9000L, NONE);
        runs("W33", 1, 9001L, 0);
        runs("W33f08", 1, 9000L, NONE);
        runs("W33f08", 1, 9001L, NONE);
        runs("W33f08", 1, 9002L, 0);
        PaneFrost all = Looks.full(8, 8);
        check.same("64", all.runScript(1, 9064L), NONE);
        check.same("65", all.runScript(1, 9065L), 0);
        check.same("99", all.runScript(1, 9099L), 0);
        for (int digit = 1; digit <= 9; digit++) {
            check.same("another digit where a 0 is written", all.runScript(1, 9000L + 100 * digit), 0);
        }
    }

    private static void eachGroup() {
        check.sentence(25, "commands with cells that do not exist fail, and so does any other group (also one with another digit where a 0 is written, or an f above 1).");
        eachGroup("W34f05", 3, 4, 5);
        eachGroup("W22f03", 2, 2, 3);
        eachGroup("W88f63", 8, 8, 63);
    }

    /** All groups there are, in a window with dry sides of which one cell is frozen. */
    private static void eachGroup(String text, int rows, int cells, int frozen) {
        PaneFrost x = Looks.loaded(text);
        for (int group = 0; group < 10000; group++) {
            if (group % 400 == 0) {
                x = Looks.loaded(text);
            }
            boolean due = succeeds(group, rows, cells, frozen);
            check.same(group + " of " + text, x.runScript(1, group), due ? NONE : 0);
        }
    }

    private static boolean succeeds(int group, int rows, int cells, int frozen) {
        int d2 = group / 100 % 10;
        int d3 = group / 10 % 10;
        int d4 = group % 10;
        int kk = 10 * d2 + d3;
        boolean isCell = kk < rows * cells;
        int[] room = {kk / cells, cells - 1 - kk % cells, rows - 1 - kk / cells, kk % cells};
        switch (group / 1000) {
            case 1:
                return isCell && d4 == 0;
            case 2:
                return isCell && d4 <= 3 && room[d4] > 0;
            case 3:
                return d2 == 0 && d3 <= 3 && d4 <= 2;
            case 4:
                return d2 == 0 && d3 == 0 && d4 <= 2;
            case 5:
                return d2 == 0 && 10 * d3 + d4 >= 1 && 10 * d3 + d4 <= 60;
            case 6:
                return isCell;
            case 7:
                return isCell && d4 == (kk == frozen ? 1 : 0);
            case 8:
                int far = Math.abs(kk / cells - frozen / cells) + Math.abs(kk % cells - frozen % cells);
                return isCell && d4 == (far == 1 ? 1 : 0);
            case 9:
                return d2 == 0 && 10 * d3 + d4 <= 1;
            default:
                return false;
        }
    }

    private static void failures() {
        check.sentence(25, "The commands 1 to 6 fail if the method would throw an exception");
        for (long group : new long[] {1120L, 2120L, 2000L, 2114L, 3003L, 3040L, 4003L, 5000L, 5061L, 6120L}) {
            runs("W34", 1, group, 0);
            runs("W34", 3, 100000000000L + group * 10000L + 1000L, 1);
            runs("W34", 3, 100010000000L + group, 2);
        }
    }

    private static void decimal() {
        check.sentence(25, "kk and nn are decimal numbers.");
        runs("W44", 2, 11007101L, NONE);
        runs("W44f08", 1, 7101L, 0);
        runs("W44f10", 1, 7101L, NONE);
        PaneFrost way = Looks.loaded("W88f00");
        Looks.windUp(way);
        check.same("ten nights", way.runScript(2, 50109011L), NONE);
        check.same("no more than ten", way.runScript(2, 50109012L), 1);
        PaneFrost ten = Looks.full(2, 5);
        check.same("ten", ten.runScript(1, 9010L), NONE);
        check.same("eleven", ten.runScript(1, 9011L), 0);
    }

    private static void numberOfCommands() {
        check.sentence(25, "- `n`: number of commands, 1 to 3");
        runs("W33", 1, 1080L, NONE);
        runs("W33", 3, 108010801080L, NONE);
        check.sentence(25, "Throws `IllegalArgumentException` if n is out of range");
        PaneFrost x = Looks.loaded("W33");
        check.refused(x, "0", ARGUMENT, () -> x.runScript(0, 0L));
        check.refused(x, "4", ARGUMENT, () -> x.runScript(4, 1000100010001000L));
        check.refused(x, "-1", ARGUMENT, () -> x.runScript(-1, 1000L));
        check.refused(x, "the greatest", ARGUMENT, () -> x.runScript(Integer.MAX_VALUE, 1000L));
    }

    private static void scriptTooLong() {
        check.sentence(25, "- `script`: the commands, a number of at most 4 * n digits (0 or more)");
        runs("W33", 1, 0L, 0);
        runs("W33", 2, 0L, 0);
        runs("W33", 3, 0L, 0);
        runs("W33", 1, 9999L, 0);
        runs("W33", 2, 99999999L, 0);
        runs("W33", 3, 999999999999L, 0);
        runs("W33", 2, 90009000L, NONE);
        runs("W33", 3, 900090009000L, NONE);
        check.sentence(25, "or if script is negative or has more than 4 * n digits");
        for (int n = 1; n <= 3; n++) {
            PaneFrost x = Looks.loaded("W33");
            int count = n;
            long tooLong = n == 1 ? 10000L : n == 2 ? 100000000L : 1000000000000L;
            check.refused(x, "one digit more", ARGUMENT, () -> x.runScript(count, tooLong));
            check.refused(x, "a group more", ARGUMENT, () -> x.runScript(count, tooLong * 1000L + 9000L));
            check.refused(x, "-1", ARGUMENT, () -> x.runScript(count, -1L));
            check.refused(x, "-1000", ARGUMENT, () -> x.runScript(count, -1000L));
            check.refused(x, "the least", ARGUMENT, () -> x.runScript(count, Long.MIN_VALUE));
            check.refused(x, "the greatest", ARGUMENT, () -> x.runScript(count, Long.MAX_VALUE));
            check.refused(x, "a command, and 2 to the power 42", ARGUMENT, () -> x.runScript(count, (1L << 42) + 1000L));
        }
        PaneFrost y = Looks.loaded("W33");
        check.refused(y, "a command, and 2 to the power 32", ARGUMENT, () -> y.runScript(1, (1L << 32) + 1000L));
    }

    private static void answers() {
        check.sentence(25, "Returns the index, from 0, of the first command that fails; NONE if all succeed.");
        long[] groups = {9000L, 9001L};
        for (int which = 0; which < 8; which++) {
            long script = 0L;
            int due = NONE;
            for (int i = 0; i < 3; i++) {
                int fails = which >> i & 1;
                script = script * 10000L + groups[fails];
                due = due == NONE && fails == 1 ? i : due;
            }
            runs("W33", 3, script, due);
        }
        runs("W33", 2, 90009001L, 1);
        runs("W33", 2, 90019000L, 0);
        runs("W33", 1, 9001L, 0);
    }

    // ---- promise 26

    /** The seed by which the first turn is r. */
    private static long seedOf(long r) {
        return (r * (1L << 33) - SUMMAND) * inverse();
    }

    private static long inverse() {
        long inverse = FACTOR;
        for (int i = 0; i < 6; i++) {
            inverse *= 2L - FACTOR * inverse;
        }
        return inverse;
    }

    /** The seed by which the first turn is r, and the second one as wished. */
    private static long seedOf(long r, Wished second) {
        for (long low = 0L; low < 10_000_000L; low++) {
            long x = r * (1L << 33) + low * 97L;
            if (second.is((int) (x * FACTOR + SUMMAND >>> 33))) {
                return (x - SUMMAND) * inverse();
            }
        }
        throw new IllegalStateException("no such seed");
    }

    private static void turn(String text, int way, int q, int due) {
        check.same("a turn " + way + " with " + q + " of " + text, Looks.loaded(text).simulate(seedOf(8L * q + way), 1), due);
    }

    /** A turn, and a night behind it. */
    private static void turnAndNight(String text, int way, int q, int due) {
        long seed = seedOf(8L * q + way, r -> r % 8 >= 6 && r / 8 % 6 == 0);
        check.same("a turn " + way + " with " + q + " of " + text + ", and a night", Looks.loaded(text).simulate(seed, 2), due);
    }

    private static void simulateOnACopy() {
        check.sentence(26, "Simulates m turns on a copy of the state.");
        PaneFrost x = Looks.loaded("W34f05f06b02s000r1");
        PaneFrost y = Looks.loaded("W34f05f06b02s000r1");
        for (int m = 1; m <= 60; m++) {
            x.simulate(m, m);
        }
        turn("W33f00f06b02s000b00", 4, 0 + 4 * 2, 202);
        turn("W33f00f06b02b00", 4, 0 + 4 * 2, 201);
        turn("W33f00f02b12s003b10", 4, 1 + 4 * 2, 202);
        check.same("the same each time", x.simulate(77L, 60), Looks.loaded("W34f05f06b02s000r1").simulate(77L, 60));
        check.same("nothing changed", Looks.deep(x), Looks.deep(y));
    }

    private static void simulateSeeds() {
        check.sentence(26, "A long x starts as the seed.");
        check.same("a flip by the seed", Looks.loaded("W88").simulate(seedOf(8L * 7), 1), 101);
        check.same("the seed is not the first r", Looks.loaded("W88").simulate(8L << 33, 1), 0);
        check.sentence(26, "Each turn first replaces x by x * 6364136223846793005L + 1442695040888963407L (with long overflow), and r = (int) (x >>> 33) is computed. q is r / 8.");
        turn("W44", 0, 0, 101);
        turn("W44", 7, (1 << 28) - 1, 0);
        turn("W28f00", 7, (1 << 28) - 1, 801);
        turn("W88", 0, 63, 101);
        turn("W88", 2, (1 << 28) - 1, 101);
        check.sentence(26, "- `seed`: any long");
        for (long seed : new long[] {0L, 1L, -1L, Long.MIN_VALUE, Long.MAX_VALUE, Integer.MIN_VALUE, 1L << 63 >>> 1}) {
            for (int m : new int[] {1, 2, 59, 60}) {
                byCalls("W44f05f06", seed, m);
                byCalls("W88b02b12s000s003r1f27", seed, m);
                byCalls("W22f00", seed, m);
            }
        }
    }

    /** The same turns, by the methods themselves. */
    private static void byCalls(String text, long seed, int m) {
        PaneFrost x = Looks.loaded(text);
        long turn = seed;
        for (int i = 0; i < m; i++) {
            turn = turn * FACTOR + SUMMAND;
            takeTurn(x, (int) (turn >>> 33));
        }
        int due = 100 * x.about(2) + x.about(6);
        check.same("simulate(" + seed + ", " + m + ") of " + text, Looks.loaded(text).simulate(seed, m), due);
    }

    private static void takeTurn(PaneFrost x, int r) {
        int q = r / 8;
        int way = r % 8;
        try {
            if (way <= 2) {
                x.flip(q % 64);
            } else if (way == 3) {
                x.scratch(q % 64, q / 64 % 4);
            } else if (way == 4 && q / 16 % 3 == 0) {
                x.border(q % 4, q / 4 % 3);
            } else if (way == 4) {
                x.breathe(q / 64 % 64, q % 4);
            } else if (way == 5) {
                x.rule(q % 3);
            } else {
                x.nights(1 + q % 6);
            }
        } catch (IndexOutOfBoundsException | IllegalStateException e) {
            return;
        }
    }

    private static void simulateTurns() {
        check.sentence(26, "By r % 8: 0 to 2: flip(q % 64). 3: scratch(q % 64, q / 64 % 4). 4: border(q % 4, q / 4 % 3), if q / 16 % 3 is 0, otherwise breathe(q / 64 % 64, q % 4). 5: rule(q % 3). Otherwise: nights(1 + q % 6).");
        for (int way = 0; way <= 2; way++) {
            turn("W88f00", way, 0, 0);
            turn("W88f00", way, 63, 202);
            turn("W88f00", way, 64, 0);
            turn("W88f00", way, 65, 201);
        }
        int[] beside = {1, 5, 7, 3};
        for (int d = 0; d < 4; d++) {
            turn("W33f04f0" + beside[d], 3, 4 + 64 * d, 202);
            turn("W33f04f0" + beside[d], 3, 4 + 64 * ((d + 1) % 4), 201);
            turn("W33f04f0" + beside[d], 3, 4 + 64 * (d + 4), 202);
        }
        for (int side = 0; side < 4; side++) {
            String facing = side % 2 == 0 ? "W33f01f07" : "W33f03f05";
            turn(facing, 4, side + 4 * 2, 201);
            turn(facing, 4, side + 4 * 1, 202);
            turn(facing, 4, side, 202);
            turnAndNight("W33", 4, side + 4 * 1, 301);
            turnAndNight("W33b01b11b21b31r1", 4, side, 503);
        }
        turn("W33f04f01f07f00", 4, 16 + 64 * 4, 302);
        turn("W33f04f01f07f00", 4, 17 + 64 * 4, 101);
        turn("W33f04f01f07f00", 4, 18 + 64 * 4, 0);
        turn("W33f04f01f07f00", 4, 18 + 64 * 4 + 16, 401);
        turn("W55f00f01f02f03f04", 4, 19, 101);
        turn("W55f00f01f02f03f04", 4, 67, 0);
        turnAndNight("W33f04", 5, 0, 501);
        turnAndNight("W33f04", 5, 1, 404);
        turnAndNight("W33f04f01", 5, 2, 503);
        turnAndNight("W33f04r1", 5, 3, 501);
        for (int q = 0; q < 6; q++) {
            turn("W28f00s002s012s022s032s042s052s062s072", 6, q, 201 + 100 * q);
            turn("W28f00s002s012s022s032s042s052s062s072", 7, q, 201 + 100 * q);
        }
        turn("W28f00s002s012s022s032s042s052s062s072", 6, 6, 201);
    }

    private static void simulateLeavesOut() {
        check.sentence(26, "What would throw an exception is left out.");
        turn("W33f00", 0, 9, 101);
        turn("W33f00", 1, 63, 101);
        turn("W33f00", 3, 0, 101);
        turn("W33f00", 3, 9 + 64, 101);
        turn("W33f00f08", 4, 16 + 64 * 9, 202);
        turn("W33f00f08", 4, 19 + 64 * 63, 202);
        long seed = seedOf(8L * 63, r -> r % 8 <= 2 && r / 8 % 64 == 3);
        check.same("what follows is done", Looks.loaded("W33").simulate(seed, 2), 101);
    }

    private static void simulateAnswers() {
        check.sentence(26, "Returns 100 * (the frozen cells at the end, how many) + (the patches at the end).");
        turn("W33", 5, 0, 0);
        turn("W33f00f08", 5, 0, 202);
        check.same("the most", Looks.full(8, 8).simulate(seedOf(5L), 1), 6401);
        PaneFrost torn = Looks.full(8, 8);
        Looks.scratchAll(torn, 8, 8);
        check.same("as many patches", torn.simulate(seedOf(5L), 1), 6464);
    }

    private static void simulateThrows() {
        check.sentence(26, "- `m`: number of turns, 1 to 60");
        check.same("one", Looks.loaded("W44").simulate(seedOf(0L), 1), 101);
        byCalls("W44f00", 9L, 60);
        check.sentence(26, "Throws `IllegalArgumentException` if m is out of range");
        PaneFrost x = Looks.loaded("W44");
        for (int m : new int[] {0, 61, -1, Integer.MIN_VALUE, Integer.MAX_VALUE}) {
            check.refused(x, "simulate(1, " + m + ")", ARGUMENT, () -> x.simulate(1L, m));
        }
    }

    // ---- promises 27 and 28

    private static void save() {
        check.sentence(27, "- `slot`: 0 or 1");
        PaneFrost x = Looks.loaded("W34f00");
        check.same("the least", x.save(0), 0);
        x.nights(1);
        check.same("the greatest", x.save(1), 1);
        check.sentence(27, "Stores the present state in a save slot.");
        x.size(2, 2);
        x.rule(2);
        check.same("the one", x.restore(0), 0);
        check.same("its state", Looks.of(x), "3 4 1 0 0 0 1 1 0 0 0 0 1 -1");
        check.same("the other", x.restore(1), 1);
        check.same("its state", Looks.of(x), "3 4 3 0 0 1 1 3 0 0 0 0 13 -1");
        x.flip(11);
        x.save(0);
        x.flip(11);
        x.restore(0);
        check.same("over what was there", x.cell(11, 0), 1);
        x.restore(1);
        check.same("the other one keeps its own", x.cell(11, 0), 0);
        check.sentence(27, "Returns the nights so far.");
        PaneFrost y = new PaneFrost();
        check.same("none", y.save(0), 0);
        y.nights(60);
        y.nights(60);
        check.same("more", y.save(0), 120);
        check.same("no action", y.undo(), 1);
        check.sentence(27, "Throws `IndexOutOfBoundsException` if there is no such save slot");
        check.refused(y, "-1", INDEX, () -> y.save(-1));
        check.refused(y, "2", INDEX, () -> y.save(2));
    }

    private static void restore() {
        check.sentence(28, "- `slot`: 0 or 1");
        PaneFrost x = Looks.loaded("W34f01b02s000b12s003n02r2");
        long frozen = x.frozen();
        x.save(0);
        x.flip(3);
        x.save(1);
        check.same("the least", x.restore(0), 2);
        check.same("its state", x.frozen(), frozen);
        check.same("the greatest", x.restore(1), 2);
        check.same("its state", x.frozen(), frozen ^ 8L);
        check.sentence(28, "The save slot keeps it.");
        for (int i = 0; i < 3; i++) {
            x.size(2 + i, 8);
            x.nights(60);
            x.restore(0);
            check.same("each time the same", Looks.whole(x), Looks.whole(Looks.loaded("W34f01b02s000b12s003n02r2")));
        }
        PaneFrost hidden = Looks.loaded("W33b02b12s000s003b00b10");
        hidden.save(1);
        hidden.size(3, 3);
        hidden.restore(1);
        hidden.border(0, 2);
        hidden.border(1, 2);
        check.same("scratches over sides, too", hidden.cell(0, 3), 9);
        check.sentence(28, "Returns the nights so far then.");
        x.nights(60);
        check.same("not those before", x.restore(0), 2);
        check.same("those of the state", x.about(5), 2);
        x.size(2, 2);
        x.save(0);
        x.nights(5);
        check.same("another state", x.restore(0), 2);
        check.same("its rows", x.about(0), 2);
    }

    private static void restoreForgets() {
        check.sentence(28, "Replaces the state by the one in a save slot, and forgets all remembered states.");
        for (int actions = 0; actions <= 16; actions++) {
            PaneFrost x = new PaneFrost();
            x.save(1);
            for (int i = 0; i < actions; i++) {
                x.nights(1);
            }
            check.same("the nights of the slot", x.restore(1), 0);
            check.refused(x, "all forgotten", STATE, () -> x.undo());
            x.flip(0);
            check.same("one since", x.undo(), 0);
            check.same("the state of the slot", x.frozen(), 0L);
        }
        PaneFrost y = new PaneFrost();
        y.flip(0);
        y.flip(1);
        y.save(0);
        y.flip(2);
        y.restore(0);
        check.refused(y, "also those before save", STATE, () -> y.undo());
    }

    private static void restoreThrows() {
        check.sentence(28, "Throws `IndexOutOfBoundsException` if there is no such save slot");
        PaneFrost x = Looks.loaded("W44f00");
        x.save(0);
        x.flip(1);
        check.refused(x, "-1", INDEX, () -> x.restore(-1));
        check.refused(x, "2", INDEX, () -> x.restore(2));
        check.same("nothing forgotten", x.undo(), 0);
        check.sentence(28, "Throws `IllegalStateException` if nothing has been saved in it since the last load");
        x.flip(1);
        check.refused(x, "the other is empty", STATE, () -> x.restore(1));
        check.same("nothing forgotten", x.undo(), 0);
        x.save(1);
        x.load();
        check.refused(x, "emptied by load", STATE, () -> x.restore(0));
        check.refused(x, "emptied, too", STATE, () -> x.restore(1));
        x.save(1);
        check.same("saved since", x.restore(1), 0);
        check.refused(x, "not this one", STATE, () -> x.restore(0));
        x.append('x');
        check.refused(x, "no window to load", STATE, () -> x.load());
        check.same("not emptied by that", x.restore(1), 0);
        check.refused(new PaneFrost(), "0 of a new object", STATE, () -> new PaneFrost().restore(0));
        check.refused(new PaneFrost(), "1 of a new object", STATE, () -> new PaneFrost().restore(1));
    }
}
