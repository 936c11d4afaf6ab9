import java.io.IOException;
import java.lang.management.ManagementFactory;
import java.lang.reflect.Constructor;
import java.lang.reflect.Field;
import java.lang.reflect.Method;
import java.lang.reflect.Modifier;
import java.nio.file.Files;
import java.nio.file.Path;
import java.util.TreeSet;

/** The public face, rules of LANGUAGE.md that can be seen, and the room that calls take. */
public final class FaceTest {
    private static final String DUE = "about(int):int again(int):int append(int):int before():long befores():int "
        + "border(int,int):int breathe(int,int):int cell(int,int):int clearText():int coming(int):long "
        + "errorPosition():int flip(int):int freezesIn(int):int frozen():long keeps(int,int):int load():int "
        + "neighbour(int,int):int nights(int):int restore(int):int rule(int):int runScript(int,long):int save(int):int "
        + "scratch(int,int):int side(int):int simulate(long,int):int size(int,int):int undo():int";
    private static final String[] NOT_THERE = {"import ", "package ", "->", "::", "synchronized", "assert ", "finally",
        "try ", "catch", "native ", "System.out", "Random", "Thread", "toString", "hashCode", "Exact", "strictfp",
        "protected ", "goto", "volatile", "transient"};
    private static final Check check = new Check("FaceTest");

    public static void main(String[] args) throws IOException {
        members();
        source();
        room();
        check.close();
    }

    private static void members() {
        Class<PaneFrost> type = PaneFrost.class;
        check.same("public and final", type.getModifiers(), Modifier.PUBLIC | Modifier.FINAL);
        TreeSet<String> methods = new TreeSet<>();
        for (Method method : type.getDeclaredMethods()) {
            if (Modifier.isPublic(method.getModifiers())) {
                check.same(method + " is no static", Modifier.isStatic(method.getModifiers()), false);
                methods.add(told(method));
            } else {
                check.same(method + " is private", Modifier.isPrivate(method.getModifiers()), true);
                check.same(method + " has a name of its own", DUE.contains(" " + method.getName() + "("), false);
            }
        }
        check.same("the methods", String.join(" ", methods), DUE);
        for (Field field : type.getDeclaredFields()) {
            boolean none = field.getName().equals("NONE");
            int due = none ? Modifier.PUBLIC | Modifier.STATIC | Modifier.FINAL : Modifier.PRIVATE | Modifier.FINAL;
            check.same(field + " in the face", field.getModifiers() & ~(none ? 0 : Modifier.STATIC), due);
        }
        Constructor<?>[] constructors = type.getDeclaredConstructors();
        check.same("one constructor", constructors.length, 1);
        check.same("it is public", constructors[0].getModifiers(), Modifier.PUBLIC);
    }

    private static String told(Method method) {
        StringBuilder told = new StringBuilder(method.getName()).append('(');
        for (Class<?> parameter : method.getParameterTypes()) {
            told.append(told.charAt(told.length() - 1) == '(' ? "" : ",").append(parameter);
        }
        return told.append("):").append(method.getReturnType()).toString();
    }

    private static void source() throws IOException {
        String text = Files.readString(Path.of("src/main/java/PaneFrost.java"));
        String code = text.replaceAll("\"[^\"\n]*\"", "\"\"").replaceAll("(?s)/\\*.*?\\*/", "").replaceAll("//[^\n]*", "");
        for (String word : NOT_THERE) {
            check.same("the source holds " + word, code.contains(word), false);
        }
        check.same("signs", text.chars().allMatch(c -> c < 127), true);
    }

    // All calls of a run share one room of 600,000 objects; nothing here needs to be made but once.
    private static void room() {
        com.sun.management.ThreadMXBean threads =
            (com.sun.management.ThreadMXBean) ManagementFactory.getThreadMXBean();
        PaneFrost x = dearest();
        long before = threads.getCurrentThreadAllocatedBytes();
        for (int i = 0; i < 20; i++) {
            x.keeps(0, 20);
            x.again(0);
            x.befores();
            x.before();
            x.coming(200);
            x.freezesIn(63);
            x.runScript(3, 501050205030L);
            x.simulate(i, 60);
            x.about(7);
            x.flip(i);
            x.nights(60);
            x.save(1);
            x.undo();
            x.errorPosition();
            x.load();
        }
        long made = threads.getCurrentThreadAllocatedBytes() - before;
        check.same("300 calls make next to nothing, " + made, made < 20000L, true);
    }

    private static PaneFrost dearest() {
        PaneFrost x = new PaneFrost();
        Looks.write(x, "W88" + "s001".repeat(9) + "b02b12r1" + "f63f09".repeat(9) + "n60n60");
        x.load();
        return x;
    }
}
