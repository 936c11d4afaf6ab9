/** Counts what is as due, and tells what is not. */
final class Check {
    interface Call {
        void run();
    }

    private final String name;
    private int right;
    private int wrong;
    private String sentence = "";
    private int countedBefore;

    Check(String name) {
        this.name = name;
    }

    /** What follows tests these words of a promise, or of the terms (0). */
    void sentence(int promise, String words) {
        endSentence();
        sentence = (promise == 0 ? "Terms: " : "Promise " + promise + ": ") + words;
        countedBefore = right + wrong;
    }

    private void endSentence() {
        if (!sentence.isEmpty() && right + wrong == countedBefore) {
            fails("no test of this sentence");
        }
    }

    private void fails(String what) {
        wrong++;
        System.out.println(name + ": " + what + (sentence.isEmpty() ? "" : " [" + sentence + "]"));
    }

    void same(String what, Object got, Object due) {
        if (got.equals(due)) {
            right++;
        } else {
            fails(what + " answered " + got + ", due is " + due);
        }
    }

    void same(String what, long got, long due) {
        same(what, Long.valueOf(got), Long.valueOf(due));
    }

    /** The call throws this very class, by a throw statement of the program, and changes nothing. */
    void refused(PaneFrost x, String what, Class<? extends RuntimeException> due, Call call) {
        String before = Looks.of(x);
        throwing(what, due, call);
        same(what + " changes", Looks.of(x), before);
    }

    /** The call throws this very class, by a throw statement of the program. */
    void throwing(String what, Class<? extends RuntimeException> due, Call call) {
        String got = "nothing";
        try {
            call.run();
        } catch (RuntimeException e) {
            got = e.getClass().getName() + " in " + e.getStackTrace()[0].getClassName().replaceAll("\\$.*", "");
        }
        same(what + " throws", got, due.getName() + " in PaneFrost");
    }

    void close() {
        endSentence();
        System.out.println(name + ": " + right + " as due, " + wrong + " not");
        if (wrong != 0 || right == 0) {
            System.exit(1);
        }
    }
}
