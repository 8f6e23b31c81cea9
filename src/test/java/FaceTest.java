import java.io.IOException;
import java.lang.reflect.Constructor;
import java.lang.reflect.Field;
import java.lang.reflect.Member;
import java.lang.reflect.Method;
import java.lang.reflect.Modifier;
import java.nio.file.Files;
import java.nio.file.Path;
import java.util.Arrays;
import java.util.Set;
import java.util.TreeSet;
import java.util.stream.Collectors;

/** The public face is the document's, word for word, and the source keeps to what LANGUAGE.md lets one see. */
public final class FaceTest {
    private static final String S = "IllegalStateException";
    private static final String I = "IndexOutOfBoundsException";
    private static final String A = "IllegalArgumentException";

    private static final Set<String> FACE = new TreeSet<>(Set.of(
            "void load(int,int) " + S + "," + I,
            "int task(int,int,int,int) " + S + "," + A,
            "void entry(int,int) " + S + "," + I,
            "void clear() " + S,
            "int round() ",
            "int synthesize() " + S,
            "void slot(int,int,int,int) " + S + "," + I + "," + A,
            "void drop() " + S,
            "int slots() ",
            "int slotOf(int,int) " + I,
            "boolean check() " + S,
            "void stop() " + S,
            "int tick() " + S,
            "int ticks(int) " + S + "," + A,
            "int time() ",
            "int count(int,int) " + I,
            "int shared(int) " + I));

    public static void main(String[] args) throws IOException {
        constants();
        methods();
        nothingElseIsOpen();
        source();
        Expect.end();
    }

    private static void constants() {
        Expect.same("NONE", TabledExecutive.NONE, -1);
        Expect.same("INFEASIBLE", TabledExecutive.INFEASIBLE, -2);
        Expect.same("LONG", TabledExecutive.LONG, -3);
        Set<String> names = Arrays.stream(TabledExecutive.class.getFields())
                .map(Field::getName).collect(Collectors.toCollection(TreeSet::new));
        Expect.text("public fields", names.toString(), "[INFEASIBLE, LONG, NONE]");
    }

    private static void methods() {
        Set<String> got = new TreeSet<>();
        for (Method m : TabledExecutive.class.getDeclaredMethods()) {
            if (Modifier.isPublic(m.getModifiers())) {
                got.add(m.getReturnType() + " " + m.getName() + "(" + names(m.getParameterTypes()) + ") "
                        + names(m.getExceptionTypes()));
            }
        }
        Expect.text("public methods", got.toString(), FACE.toString());
        Constructor<?>[] made = TabledExecutive.class.getConstructors();
        Expect.same("public constructors", made.length, 1);
        Expect.same("its parameters", made[0].getParameterCount(), 0);
        Expect.yes("final", Modifier.isFinal(TabledExecutive.class.getModifiers()));
    }

    private static String names(Class<?>[] types) {
        return Arrays.stream(types).map(Class::getSimpleName).collect(Collectors.joining(","));
    }

    private static void nothingElseIsOpen() {
        Class<?> c = TabledExecutive.class;
        Arrays.stream(c.getDeclaredFields()).forEach(FaceTest::publicOrPrivate);
        Arrays.stream(c.getDeclaredMethods()).forEach(FaceTest::publicOrPrivate);
        for (Field f : c.getDeclaredFields()) {
            Expect.yes("static but not final: " + f,
                    !Modifier.isStatic(f.getModifiers()) || Modifier.isFinal(f.getModifiers()));
        }
        for (Method m : c.getDeclaredMethods()) {
            Expect.no("private method with a public name: " + m, Modifier.isPrivate(m.getModifiers())
                    && FACE.stream().anyMatch(s -> s.contains(" " + m.getName() + "(")));
        }
    }

    private static void publicOrPrivate(Member m) {
        int how = m.getModifiers();
        Expect.yes("neither public nor private: " + m,
                m.isSynthetic() || Modifier.isPublic(how) || Modifier.isPrivate(how));
    }

    private static void source() throws IOException {
        for (String line : Files.readAllLines(Path.of("src/main/java/TabledExecutive.java"))) {
            Expect.no("not in the language: " + line, line.matches(
                    ".*(^package|->|::|\\bfinally\\b|\\bsynchronized\\b|\\bassert\\b|Exact\\(|\\btry\\b).*"));
            Expect.yes("no such library: " + line,
                    !line.startsWith("import") || line.equals("import java.util.Arrays;"));
        }
    }
}
