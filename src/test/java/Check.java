/** Counts what is as due, and tells what is not. */
final class Check {
    interface Call {
        void run();
    }

    private final String name;
    private int right;
    private int wrong;

    Check(String name) {
        this.name = name;
    }

    void same(String what, Object got, Object due) {
        if (got.equals(due)) {
            right++;
        } else {
            wrong++;
            System.out.println(name + ": " + what + " answered " + got + ", due is " + due);
        }
    }

    void same(String what, long got, long due) {
        same(what, Long.valueOf(got), Long.valueOf(due));
    }

    /** The call throws this very class, by a throw statement of the program, and changes nothing. */
    void refused(PaneFrost x, String what, Class<? extends RuntimeException> due, Call call) {
        String before = Looks.of(x);
        String got = "nothing";
        try {
            call.run();
        } catch (RuntimeException e) {
            got = e.getClass().getName() + " in " + e.getStackTrace()[0].getClassName().replaceAll("\\$.*", "");
        }
        same(what + " throws", got, due.getName() + " in PaneFrost");
        same(what + " changes", Looks.of(x), before);
    }

    void close() {
        System.out.println(name + ": " + right + " as due, " + wrong + " not");
        if (wrong != 0 || right == 0) {
            System.exit(1);
        }
    }
}
