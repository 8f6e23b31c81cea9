import java.io.IOException;
import java.lang.reflect.InvocationTargetException;
import java.lang.reflect.Method;
import java.lang.reflect.Modifier;
import java.nio.file.Files;
import java.nio.file.Path;
import java.util.Arrays;
import java.util.List;
import java.util.Set;
import java.util.TreeSet;
import java.util.regex.Matcher;
import java.util.regex.Pattern;

/**
 * The calls of README.md's examples are made one by one: each that answers or throws has the answer, or the
 * exception's name, as the first word of its comment. And README.md leaves out no method and no test.
 */
public final class ReadmeTest {
    private static final String FRESH = "TabledExecutive x = new TabledExecutive();";
    private static final Pattern CALL = Pattern.compile("x\\.(\\w+)\\((.*?)\\);(?: +// (.*))?");
    private static final String NOTHING = "nothing";

    private final Set<String> called = new TreeSet<>();
    private TabledExecutive x;

    public static void main(String[] args) throws IOException {
        List<String> lines = Files.readAllLines(Path.of("README.md"));
        ReadmeTest test = new ReadmeTest();
        test.makeCallsOf(lines);
        Expect.text("methods in the examples", test.called.toString(), publicMethods().toString());
        tellsHowToTest(String.join("\n", lines));
        Expect.end();
    }

    private void makeCallsOf(List<String> lines) {
        boolean inside = false;
        for (String line : lines) {
            if (line.startsWith("```")) {
                inside = line.equals("```java");
            } else if (inside && !line.isBlank()) {
                make(line);
            }
        }
    }

    private void make(String line) {
        Matcher call = CALL.matcher(line);
        if (line.equals(FRESH)) {
            x = new TabledExecutive();
        } else if (x != null && call.matches()) {
            String got = answer(call.group(1), numbers(call.group(2)));
            String told = call.group(3) == null ? "" : call.group(3).split("[:;] ")[0];
            Expect.text(line, got, got.equals(NOTHING) && !told.endsWith("Exception") ? NOTHING : told);
        } else {
            Expect.tell("no call that can be made: " + line);
        }
    }

    private static Object[] numbers(String written) {
        return Arrays.stream(written.split(", ")).filter(w -> !w.isEmpty()).map(Integer::decode).toArray();
    }

    private String answer(String name, Object[] arguments) {
        called.add(name);
        Class<?>[] ints = new Class<?>[arguments.length];
        Arrays.fill(ints, int.class);
        try {
            Method method = TabledExecutive.class.getMethod(name, ints);
            Object answer = method.invoke(x, arguments);
            return method.getReturnType() == void.class ? NOTHING : inWords(answer);
        } catch (InvocationTargetException e) {
            return e.getCause().getClass().getSimpleName();
        } catch (ReflectiveOperationException e) {
            return "no such method";
        }
    }

    /** The constants of the class stand in README.md by their names. */
    private static String inWords(Object answer) {
        if (answer.equals(TabledExecutive.NONE)) {
            return "NONE";
        }
        if (answer.equals(TabledExecutive.INFEASIBLE)) {
            return "INFEASIBLE";
        }
        return answer.equals(TabledExecutive.LONG) ? "LONG" : answer.toString();
    }

    private static Set<String> publicMethods() {
        Set<String> names = new TreeSet<>();
        for (Method m : TabledExecutive.class.getDeclaredMethods()) {
            if (Modifier.isPublic(m.getModifiers())) {
                names.add(m.getName());
            }
        }
        return names;
    }

    private static void tellsHowToTest(String readme) throws IOException {
        Expect.yes("README.md names .ci/run", readme.contains("    .ci/run\n"));
        try (var files = Files.newDirectoryStream(Path.of("src/test/java"), "*.java")) {
            for (Path file : files) {
                String name = file.getFileName().toString().replace(".java", "");
                Expect.yes("README.md names " + name, readme.contains("`" + name + "`"));
            }
        }
    }
}
