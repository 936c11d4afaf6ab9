/** The edges that the document names: the text of the terms, promises 1 to 5, a sentence each. */
public final class TextEdgesTest {
    private static final Class<IllegalArgumentException> ARGUMENT = IllegalArgumentException.class;
    private static final Class<IllegalStateException> STATE = IllegalStateException.class;
    private static final int NONE = PaneFrost.NONE;
    private static final String DIGITS = "0123456789";
    private static final String COMMANDS = "fsbrtn";
    private static final Check check = new Check("TextEdgesTest");

    public static void main(String[] args) {
        aNewObject();
        append();
        clearText();
        theLetterW();
        rowsAndCells();
        anyNumberOfCommands();
        cellDigits();
        commandF();
        commandS();
        commandB();
        commandR();
        commandT();
        commandN();
        leftOut();
        noBlanks();
        leftToRight();
        theFirstNotAllowed();
        digitsThatBeginNothing();
        tooSoon();
        errorPosition();
        loadMakesNew();
        loadForgets();
        loadKeepsText();
        loadCounts();
        loadThrows();
        check.close();
    }

    // ---- promises 1 to 3

    private static void aNewObject() {
        check.sentence(1, "Creates a clear window.");
        PaneFrost x = new PaneFrost();
        check.same("all that there is", Looks.whole(x), "4 4 0 0 0 0 0 0 0 0 0 0 0 0 scratches" + " 0".repeat(16));
        check.same("each object's own", deepOfNew(x), Looks.deep(new PaneFrost()));
        for (int k = 0; k < 16; k++) {
            int[] beside = {k < 4 ? NONE : k - 4, k % 4 == 3 ? NONE : k + 1, k > 11 ? NONE : k + 4, k % 4 == 0 ? NONE : k - 1};
            for (int d = 0; d < 4; d++) {
                check.same("neighbour(" + k + ", " + d + ")", new PaneFrost().neighbour(k, d), beside[d]);
            }
        }
        check.refused(new PaneFrost(), "load of no text", STATE, () -> new PaneFrost().load());
        check.sentence(0, "The constants: `NONE = -1`: There is no such result.");
        check.same("NONE", PaneFrost.NONE, -1);
    }

    private static String deepOfNew(PaneFrost x) {
        PaneFrost other = Looks.loaded("W22f00s001b02r2n03");
        other.save(0);
        other.flip(1);
        return Looks.deep(x);
    }

    private static void append() {
        check.sentence(2, "Appends a character to the text buffer.");
        PaneFrost w = new PaneFrost();
        for (int c : new int[] {'W', '4', '4'}) {
            w.append(c);
        }
        check.same("in this order", w.errorPosition(), NONE);
        check.sentence(2, "- `c`: character code, 0 to 255");
        check.same("the least", new PaneFrost().append(0), 1);
        check.same("the greatest", new PaneFrost().append(255), 1);
        check.sentence(2, "Throws `IllegalArgumentException` if c is out of range");
        PaneFrost x = Looks.written("W44");
        check.refused(x, "one less", ARGUMENT, () -> x.append(-1));
        check.refused(x, "one more", ARGUMENT, () -> x.append(256));
        check.refused(x, "a letter and 256", ARGUMENT, () -> x.append('f' + 256));
        check.refused(x, "a letter and 65536", ARGUMENT, () -> x.append('f' + 65536));
        check.sentence(2, "Returns the new length of the text.");
        PaneFrost y = new PaneFrost();
        for (int length = 1; length <= 120; length++) {
            check.same("append", y.append(length % 256), length);
        }
        check.sentence(0, "The object has a text buffer of at most 120 characters.");
        check.refused(y, "the character 121", STATE, () -> y.append('0'));
        check.same("the length is still", y.clearText(), 120);
        check.sentence(2, "Throws `IllegalStateException` if the text already has 120 characters");
        PaneFrost z = Looks.written("W88" + "f63".repeat(38) + "f6");
        check.same("119 and one", z.append('3'), 120);
        check.refused(z, "one more of those", STATE, () -> z.append('f'));
        check.refused(z, "the least of more", STATE, () -> z.append(0));
        check.same("the text is as it was", z.errorPosition(), NONE);
        z.clearText();
        check.same("again from the first", z.append('W'), 1);
    }

    private static void clearText() {
        check.sentence(3, "Empties the text buffer.");
        PaneFrost x = Looks.written("W44f00");
        x.clearText();
        check.same("nothing is left", x.errorPosition(), 0);
        Looks.write(x, "W4");
        check.same("nothing behind what is new", x.errorPosition(), 2);
        check.sentence(3, "Returns the previous length of the text.");
        check.same("two", x.clearText(), 2);
        check.same("none", x.clearText(), 0);
        x.append('W');
        check.same("one", x.clearText(), 1);
        Looks.write(x, "n".repeat(120));
        check.same("all", x.clearText(), 120);
        check.same("none behind all", x.clearText(), 0);
    }

    // ---- what is allowed at which place

    /** Behind the text before, each of all characters is tried: these are allowed, and no other. */
    private static void next(String before, String allowed, boolean isWindowThen) {
        PaneFrost x = new PaneFrost();
        for (int c = 0; c < 256; c++) {
            if (c % 16 == 0) {
                x = new PaneFrost();
            }
            x.clearText();
            Looks.write(x, before);
            x.append(c);
            boolean isAllowed = allowed.indexOf(c) >= 0;
            int due = !isAllowed ? before.length() : isWindowThen ? NONE : before.length() + 1;
            check.same("errorPosition of " + before + (char) c + " (" + c + ")", x.errorPosition(), due);
        }
    }

    private static void theLetterW() {
        check.sentence(0, "A window as a text is the letter W");
        next("", "W", false);
    }

    private static void rowsAndCells() {
        check.sentence(0, "a digit for rows (2 to 8), one for cells of a row (2 to 8)");
        next("W", "2345678", false);
        for (int rows = 2; rows <= 8; rows++) {
            next("W" + rows, "2345678", true);
            for (int cells = 2; cells <= 8; cells++) {
                PaneFrost x = Looks.loaded("W" + rows + cells);
                check.same("rows", x.about(0), rows);
                check.same("cells", x.about(1), cells);
            }
        }
    }

    private static void anyNumberOfCommands() {
        check.sentence(0, "and then any number of commands");
        check.same("none", Looks.written("W22").errorPosition(), NONE);
        for (int count = 1; count <= 39; count++) {
            PaneFrost x = Looks.written("W44" + "f05".repeat(count));
            check.same(count + " commands", x.errorPosition(), NONE);
            check.same("none left out", x.load(), 0);
            check.same("all done", x.frozen(), count % 2 == 0 ? 0L : 32L);
        }
        PaneFrost most = Looks.loaded("W44r1" + "r0".repeat(56) + "r2");
        check.same("58 commands, the last one", most.about(4), 2);
        check.same("are 119 characters", most.clearText(), 119);
        for (String command : new String[] {"f00", "s000", "b00", "r0", "t000", "n01"}) {
            next("W44" + command, COMMANDS, false);
        }
        next("W44", COMMANDS, false);
    }

    private static void cellDigits() {
        check.sentence(0, "a cell being two digits (00 to 63)");
        for (char command : new char[] {'f', 's', 't'}) {
            boolean isWhole = command == 'f';
            next("W88" + command, "0123456", false);
            for (int first = 0; first < 6; first++) {
                next("W88" + command + first, DIGITS, isWhole);
            }
            next("W88" + command + "6", "0123", isWhole);
        }
        check.same("a cell is no smaller in a small window", Looks.written("W22f63").errorPosition(), NONE);
        check.same("the least cell", Looks.loaded("W88f00").frozen(), 1L);
        check.same("the greatest cell", Looks.loaded("W88f63").frozen(), Long.MIN_VALUE);
        check.same("ten", Looks.loaded("W88f10").frozen(), 1L << 10);
        check.same("fifty-nine", Looks.loaded("W88f59").frozen(), 1L << 59);
    }

    private static void commandF() {
        check.sentence(0, "f and a cell: flip()");
        next("W34f11f", "0123456", false);
        check.same("one", Looks.loaded("W34f11").frozen(), 1L << 11);
        check.same("two", Looks.loaded("W34f11f00").frozen(), 1L << 11 | 1L);
        check.same("twice", Looks.loaded("W34f11f11").frozen(), 0L);
    }

    private static void commandS() {
        check.sentence(0, "s, a cell, and a direction (0 to 3): scratch()");
        next("W88s00", "0123", true);
        next("W88s63", "0123", true);
        int[] beside = {1, 6, 9, 4};
        for (int d = 0; d < 4; d++) {
            PaneFrost x = Looks.loaded("W44s05" + d);
            check.same("the direction " + d, x.cell(5, 3), 1 << d);
            check.same("one scratch", x.about(3), 1);
            check.same("from there", x.cell(beside[d], 3), 1 << (d + 2) % 4);
        }
        check.same("polished", Looks.loaded("W44s051s063").about(3), 0);
    }

    private static void commandB() {
        check.sentence(0, "b, a side (0 to 3), and a kind (0 to 2): border()");
        next("W44b", "0123", false);
        for (int side = 0; side < 4; side++) {
            next("W44b" + side, "012", true);
            for (int kind = 0; kind <= 2; kind++) {
                PaneFrost x = Looks.loaded("W44b" + side + kind);
                check.same("the side " + side, x.side(side), kind);
                check.same("the opposite one", x.side((side + 2) % 4), kind == 2 ? 2 : 0);
                check.same("the next one", x.side((side + 1) % 4), 0);
            }
        }
    }

    private static void commandR() {
        check.sentence(0, "r and a rule (0 to 2): rule()");
        next("W44r", "012", true);
        for (int rule = 0; rule <= 2; rule++) {
            check.same("the rule", Looks.loaded("W44r" + rule).about(4), rule);
        }
        check.same("back", Looks.loaded("W44r2r0").about(4), 0);
    }

    private static void commandT() {
        check.sentence(0, "t, a cell, and a digit (0 to 9): breathe()");
        next("W44t00", DIGITS, true);
        next("W44t63", DIGITS, true);
        check.same("no step", Looks.loaded("W22f00f01f02f03t000").frozen(), 14L);
        check.same("one step", Looks.loaded("W22f00f01f02f03t001").frozen(), 8L);
        check.same("nine steps", Looks.loaded("W88f09f18f63t009").frozen(), Long.MIN_VALUE);
        check.same("nine steps reach nine", Looks.loaded("W88f36f37f38t009").frozen(), 1L << 38);
    }

    private static void commandN() {
        check.sentence(0, "n and two digits (01 to 60): nights()");
        next("W44n", "0123456", false);
        next("W44n0", "123456789", true);
        for (int first = 1; first < 6; first++) {
            next("W44n" + first, DIGITS, true);
        }
        next("W44n6", "0", true);
        check.same("one night", Looks.loaded("W44n01").about(5), 1);
        check.same("sixty nights", Looks.loaded("W44n60").about(5), 60);
        check.same("forty-two nights", Looks.loaded("W44n42").about(5), 42);
        check.same("frost, too", Looks.loaded("W28f00n01").frozen(), Looks.set(0, 1, 8));
    }

    private static void leftOut() {
        check.sentence(0, "Commands that would throw an exception are left out.");
        left("W22f04f00f63", 2, "W22f00");
        left("W88f63f00", 0, "W88f63f00");
        left("W34f11f12", 1, "W34f11");
        left("W34s000s001s003", 2, "W34s001");
        left("W34s121s112s111", 3, "W34");
        left("W34b01b11s000s031", 2, "W34b01b11");
        left("W34b02s000s003", 1, "W34b02s000");
        left("W34f00t120t639", 2, "W34f00");
        left("W34b02r0n60", 0, "W34n60b02");
        left("W34f05s051n02t051f12", 1, "W34f05s051n02t051");
    }

    private static void left(String text, int count, String same) {
        PaneFrost x = Looks.written(text);
        check.same("left out of " + text, x.load(), count);
        PaneFrost y = Looks.loaded(same);
        x.clearText();
        y.clearText();
        check.same("what " + text + " leaves", Looks.whole(x), Looks.whole(y));
    }

    private static void noBlanks() {
        check.sentence(0, "There are no blanks.");
        String text = "W44f05s051b02r1t059n60";
        check.same("without one", Looks.written(text).errorPosition(), NONE);
        for (int place = 0; place <= text.length(); place++) {
            for (char blank : new char[] {' ', '\t', '\n', '\r', 0, 160}) {
                String spaced = text.substring(0, place) + blank + text.substring(place);
                check.same("a blank at " + place, Looks.written(spaced).errorPosition(), place);
            }
        }
    }

    private static void leftToRight() {
        check.sentence(0, "The text is read from left to right.");
        check.same("frozen, then a night", Looks.loaded("W28f00n01").frozen(), Looks.set(0, 1, 8));
        check.same("a night, then frozen", Looks.loaded("W28n01f00").frozen(), 1L);
        check.same("the last rule", Looks.loaded("W28r1r2").about(4), 2);
        check.same("the last side", Looks.loaded("W28b01b00").side(0), 0);
        check.same("joined before the scratch", Looks.loaded("W28b02s000").about(3), 1);
        check.same("joined behind it", Looks.loaded("W28s000b02").about(3), 0);
        check.same("frozen, then breath", Looks.loaded("W28f00t000").frozen(), 0L);
        check.same("breath, then frozen", Looks.loaded("W28t000f00").frozen(), 1L);
    }

    // ---- the error position

    private static void theFirstNotAllowed() {
        check.sentence(0, "The error position is the index of the first character that these rules do not allow at its place");
        String text = "W44f05s051b02r1t059n60";
        for (int place = 0; place < text.length(); place++) {
            for (int second = place + 1; second <= text.length(); second++) {
                String wrong = text.substring(0, place) + 'x' + text.substring(place + 1, second) + 'x';
                check.same("errorPosition of " + wrong, Looks.written(wrong).errorPosition(), place);
            }
        }
        String full = "W88" + "f63".repeat(39);
        for (int place = 0; place < 120; place++) {
            String wrong = full.substring(0, place) + '9' + full.substring(place + 1);
            check.same("errorPosition of a full text", Looks.written(wrong).errorPosition(), place);
        }
    }

    private static void digitsThatBeginNothing() {
        check.sentence(0, "(a digit is not allowed if no number that is allowed begins with it and those before it)");
        for (int digit = 7; digit <= 9; digit++) {
            at("W88f" + digit + "0", 4);
            at("W88s" + digit + "00", 4);
            at("W88t" + digit + "00", 4);
            at("W88n" + digit + "0", 4);
        }
        at("W88f64", 5);
        at("W88s640", 5);
        at("W88t640", 5);
        at("W88n61", 5);
        at("W88n00", 5);
        at("W88f63", NONE);
        at("W88n60", NONE);
        at("W88n01", NONE);
        at("W88n10", NONE);
        at("W10", 1);
        at("W90", 1);
        at("W81", 2);
        at("W89", 2);
        at("W88b40", 4);
        at("W88b33", 5);
        at("W88r3", 4);
        at("W88s634", 6);
    }

    private static void at(String text, int due) {
        check.same("errorPosition of " + text, Looks.written(text).errorPosition(), due);
    }

    private static void tooSoon() {
        check.sentence(0, "if the text ends too soon, it is the length of the text.");
        at("", 0);
        at("W", 1);
        at("W2", 2);
        for (String command : new String[] {"f63", "s633", "b32", "r2", "t639", "n60", "n01", "f00"}) {
            String whole = "W88r0" + command;
            for (int length = 6; length < whole.length(); length++) {
                at(whole.substring(0, length), length);
            }
            at(whole, NONE);
        }
        String full = "W88" + "f63".repeat(39);
        for (int length = 0; length <= 120; length++) {
            at(full.substring(0, length), length >= 3 && length % 3 == 0 ? NONE : length);
        }
        at("W88" + "r0".repeat(58) + "f", 120);
        at("W88" + "r0".repeat(57) + "s00", 120);
    }

    private static void errorPosition() {
        check.sentence(4, "Checks the text.");
        PaneFrost x = new PaneFrost();
        String text = "W44f0";
        for (int i = 0; i < text.length(); i++) {
            check.same("at " + i, x.errorPosition(), i == 3 ? NONE : i);
            x.append(text.charAt(i));
        }
        check.same("at 5", x.errorPosition(), 5);
        check.same("no state of it", x.frozen(), 0L);
        check.sentence(4, "Returns the error position of the text; NONE if it is a window.");
        at("W22", NONE);
        at("W88n60", NONE);
        at("W22x", 3);
        at("W22W22", 3);
    }

    // ---- load

    /** A window, sides, rule, nights, scratches and slots of which nothing may be left. */
    private static PaneFrost used() {
        PaneFrost x = new PaneFrost();
        x.size(8, 8);
        x.border(0, 2);
        x.border(1, 2);
        Looks.scratchAll(x, 8, 8);
        x.rule(2);
        x.flip(0);
        x.flip(63);
        x.nights(60);
        x.save(0);
        x.save(1);
        return x;
    }

    private static void loadMakesNew() {
        check.sentence(5, "Makes everything as in a new object, but with the rows and cells of a row that are told");
        for (int[] size : new int[][] {{2, 2}, {3, 4}, {4, 4}, {2, 8}, {8, 2}}) {
            PaneFrost x = used();
            String text = "W" + size[0] + size[1];
            Looks.write(x, text);
            x.load();
            String due = size[0] + " " + size[1] + " 0 0 0 0 0 0 0 0 0 0 0 -1 scratches" + " 0".repeat(size[0] * size[1]);
            check.same("behind " + text, Looks.whole(x), due);
            x.border(0, 2);
            x.border(1, 2);
            check.same("no scratch comes back", x.about(3), 0);
        }
        check.sentence(5, "and then does the commands of the text.");
        PaneFrost y = used();
        Looks.write(y, "W22b12s003f01r1n01f03");
        check.same("all of them", y.load(), 0);
        check.same("a scratch", y.cell(0, 3), 8);
        check.same("nights of it alone", y.about(5), 1);
        check.same("by its rule", y.frozen(), Looks.set(0));
    }

    private static void loadForgets() {
        check.sentence(5, "Behind it no state is remembered, and both save slots are empty.");
        for (String text : new String[] {"W44", "W44f00r1n03b02"}) {
            PaneFrost x = used();
            Looks.write(x, text);
            x.load();
            check.refused(x, "undo behind load", STATE, () -> x.undo());
            check.refused(x, "restore(0) behind load", STATE, () -> x.restore(0));
            check.refused(x, "restore(1) behind load", STATE, () -> x.restore(1));
            x.flip(0);
            check.same("one action since", x.undo(), 0);
            x.save(1);
            check.same("one slot since", x.restore(1), x.about(5));
            check.refused(x, "restore(0) still", STATE, () -> x.restore(0));
        }
    }

    private static void loadKeepsText() {
        check.sentence(5, "Keeps the text.");
        String text = "W44f00f63n60";
        PaneFrost x = Looks.written(text);
        for (int i = 0; i < 3; i++) {
            check.same("left out", x.load(), 1);
            check.same("the same each time", x.about(5), 60);
        }
        Looks.write(x, "t009");
        check.same("what follows is added", x.load(), 1);
        check.same("and done", x.frozen(), 0L);
        check.same("its length", x.clearText(), text.length() + 4);
    }

    private static void loadCounts() {
        check.sentence(5, "Returns the number of commands that are left out.");
        check.same("of none", Looks.written("W22").load(), 0);
        check.same("of one", Looks.written("W22f03").load(), 0);
        check.same("the only one", Looks.written("W22f04").load(), 1);
        check.same("all of them", Looks.written("W22" + "f04".repeat(39)).load(), 39);
        check.same("all but the last", Looks.written("W22" + "f04".repeat(38) + "f03").load(), 38);
        check.same("each kind that can be", Looks.written("W22f04s041s000t049b02s000").load(), 4);
    }

    private static void loadThrows() {
        check.sentence(5, "Throws `IllegalStateException` if the text is not a window");
        for (String text : new String[] {"", "W", "W4", "W44f", "W44f0", "W44f64", "W44n00", "W44n61", "W44f00x",
            "W88" + "r0".repeat(58) + "f"}) {
            PaneFrost x = Looks.loaded("W34f01b12s003r2n01");
            x.save(0);
            x.flip(7);
            x.clearText();
            Looks.write(x, text);
            PaneFrost y = Looks.loaded("W34f01b12s003r2n01");
            y.save(0);
            y.flip(7);
            y.clearText();
            Looks.write(y, text);
            check.throwing("load of " + text, STATE, () -> x.load());
            check.same("all is as it was", Looks.deep(x), Looks.deep(y));
        }
    }
}
