import java.lang.reflect.InvocationTargetException;
import java.lang.reflect.Method;
import java.util.ArrayList;
import java.util.Comparator;
import java.util.List;
import java.util.Random;

/** Promises 1 to 28: long runs of calls, each answered by PaneFrost and by Model. */
public final class ModelTest {
    private static final int RUNS = 700;
    // Two of them ask for the size of the window behind the last step.
    private static final int CALLS = 512;
    private static final String[] QUESTIONS = {"about", "frozen", "cell", "neighbour", "side", "coming", "again",
        "befores", "before", "freezesIn", "keeps", "runScript", "simulate"};
    private static final String[] ACTIONS = {"size", "flip", "flip", "flip", "scratch", "scratch", "scratch", "border",
        "border", "rule", "breathe", "nights", "undo", "save", "restore"};
    private static final Check check = new Check("ModelTest");

    private final Random random;
    private final PaneFrost x = new PaneFrost();
    private final Model model = new Model();
    private final List<String> calls = new ArrayList<>();
    private boolean differs;
    private int rows = 4;
    private int cells = 4;

    private ModelTest(int run) {
        random = new Random(run);
    }

    public static void main(String[] args) {
        for (int run = 0; run < RUNS; run++) {
            new ModelTest(run).run(run);
        }
        check.close();
    }

    private void run(int run) {
        if (run % 3 != 0) {
            load();
        }
        if (run % 5 == 1) {
            call("size", 8L, 8L);
        }
        if (run % 5 == 2) {
            call("size", 2L, 2L + random.nextInt(3));
        }
        int cautious = run % 4;
        while (calls.size() < CALLS - 2 && !differs) {
            step(cautious);
        }
        check.same("run " + run, differs ? "otherwise: " + calls : "alike", "alike");
    }

    private void step(int cautious) {
        int way = random.nextInt(100);
        if (way == 0 && cautious == 3 && calls.size() < 350) {
            load();
        } else if (way < 3) {
            call("errorPosition");
        } else if (way == 3) {
            append(random.nextInt(300) - 20);
        } else if (way < 45) {
            any(QUESTIONS[random.nextInt(QUESTIONS.length)], cautious);
        } else {
            String name = ACTIONS[random.nextInt(ACTIONS.length)];
            boolean rare = name.equals("size") || name.equals("undo") || name.equals("restore");
            if (!rare || random.nextInt(4) == 0) {
                any(name, cautious);
            }
        }
        rows = x.about(0);
        cells = x.about(1);
        calls.add("about(0)");
        calls.add("about(1)");
    }

    private void append(int c) {
        call("append", (long) c);
    }

    private void load() {
        call("clearText");
        String text = text();
        for (int i = 0; i < text.length(); i++) {
            append(text.charAt(i));
        }
        call("errorPosition");
        call("load");
    }

    private String text() {
        StringBuilder text = new StringBuilder("W");
        text.append(2 + random.nextInt(7)).append(2 + random.nextInt(7));
        int wished = 20 + random.nextInt(100);
        while (text.length() < wished - 5) {
            int k = random.nextInt(random.nextInt(4) == 0 ? 64 : 30);
            String cell = k < 10 ? "0" + k : "" + k;
            String[] commands = {"f" + cell, "f" + cell, "s" + cell + random.nextInt(4), "s" + cell + random.nextInt(4),
                "b" + random.nextInt(4) + random.nextInt(3), "r" + random.nextInt(3), "t" + cell + random.nextInt(10),
                "n0" + (1 + random.nextInt(9))};
            text.append(commands[random.nextInt(commands.length)]);
        }
        if (random.nextInt(6) == 0) {
            text.setCharAt(random.nextInt(text.length()), "0123456789fsbrtnW x".charAt(random.nextInt(19)));
        }
        return text.toString();
    }

    private void any(String name, int cautious) {
        Method method = named(PaneFrost.class, name);
        Object[] arguments = new Object[method.getParameterCount()];
        for (int i = 0; i < arguments.length; i++) {
            arguments[i] = argument(name, i, cautious);
        }
        if (name.equals("runScript")) {
            int n = random.nextInt(20) == 0 ? random.nextInt(6) - 1 : 1 + random.nextInt(3);
            arguments[0] = (long) n;
            arguments[1] = script(n);
        }
        call(name, arguments);
    }

    private long argument(String name, int place, int cautious) {
        if (name.equals("simulate") && place == 0) {
            return random.nextLong();
        }
        if (random.nextInt(20) == 0 && cautious == 0) {
            long[] wild = {-1L, Integer.MIN_VALUE, Integer.MAX_VALUE, 64L, 8L, 201L, 61L, 21L, 10L, 4L, 3L, 2L, 0L};
            return wild[random.nextInt(wild.length)];
        }
        int most = most(name, place);
        return least(name, place) + random.nextInt(most - least(name, place) + 1) + (random.nextInt(60) == 0 ? 1 : 0);
    }

    private static int least(String name, int place) {
        boolean fromOne = List.of("nights", "coming", "simulate").contains(name) || name.equals("keeps") && place == 1;
        return name.equals("size") ? 2 : fromOne ? 1 : 0;
    }

    private int most(String name, int place) {
        if (place == 0 && List.of("cell", "neighbour", "flip", "scratch", "breathe", "freezesIn", "keeps").contains(name)) {
            return rows * cells - 1;
        }
        switch (name) {
            case "about":
                return 7;
            case "cell":
            case "neighbour":
            case "scratch":
            case "side":
                return 3;
            case "size":
                return 8;
            case "border":
                return place == 0 ? 3 : 2;
            case "rule":
                return 2;
            case "breathe":
                return random.nextInt(3) == 0 ? 9 : 1;
            case "nights":
                return random.nextInt(4) == 0 ? 60 : 3;
            case "coming":
                return 200;
            case "keeps":
                return 20;
            case "simulate":
                return 60;
            default:
                return 1;
        }
    }

    private long script(int n) {
        long script = 0L;
        for (int i = 0; i < n; i++) {
            int k = random.nextInt(20) == 0 ? random.nextInt(100) : random.nextInt(rows * cells);
            int[] groups = {1000 + 10 * k, 1000 + 10 * k, 2000 + 10 * k + random.nextInt(4),
                3000 + 10 * random.nextInt(4) + random.nextInt(3), 4000 + random.nextInt(3),
                5000 + random.nextInt(64), 6000 + 10 * k + random.nextInt(10), 7000 + 10 * k + random.nextInt(2),
                8000 + 10 * k + random.nextInt(5), 9000 + random.nextInt(20), random.nextInt(10000)};
            script = script * 10000L + groups[random.nextInt(groups.length)];
        }
        if (random.nextInt(30) == 0) {
            script = random.nextLong() >> random.nextInt(60);
        }
        return script;
    }

    private void call(String name, Object... arguments) {
        if (calls.size() >= CALLS - 2 || differs) {
            return;
        }
        String got = answer(x, name, arguments);
        String due = answer(model, name, arguments);
        calls.add(name + java.util.Arrays.toString(arguments) + "=" + got);
        if (!got.equals(due)) {
            differs = true;
            calls.add("due is " + due);
        }
    }

    private static String answer(Object object, String name, Object... arguments) {
        Method method = named(object.getClass(), name);
        Object[] fitting = new Object[arguments.length];
        for (int i = 0; i < fitting.length; i++) {
            long value = (Long) arguments[i];
            fitting[i] = method.getParameterTypes()[i] == int.class ? (Object) (int) value : (Object) value;
        }
        try {
            return "" + method.invoke(object, fitting);
        } catch (InvocationTargetException e) {
            Throwable cause = e.getCause();
            String thrower = cause.getStackTrace()[0].getClassName().replaceAll("\\$.*", "");
            return thrower.equals(object.getClass().getName()) ? cause.getClass().getName() : cause + " in " + thrower;
        } catch (IllegalAccessException e) {
            return "" + e;
        }
    }

    private static Method named(Class<?> type, String name) {
        return java.util.Arrays.stream(type.getDeclaredMethods()).filter(m -> m.getName().equals(name))
            .min(Comparator.comparing(Method::getParameterCount)).get();
    }
}
