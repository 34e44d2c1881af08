import java.io.IOException;
import java.lang.reflect.Method;
import java.lang.reflect.Modifier;
import java.nio.file.Files;
import java.nio.file.Path;
import java.util.Set;
import java.util.TreeSet;
import java.util.regex.Matcher;
import java.util.regex.Pattern;

/** Makes the calls of README.md's example: each must answer what stands behind it, and no call of the face is left out. */
public final class ReadmeTests {
    private static final Pattern EXAMPLE = Pattern.compile("```java\\n(.*?)```", Pattern.DOTALL);
    private static final Pattern CALL = Pattern.compile("x\\.(\\w+)\\(([^)]*)\\); +// (-?\\d+|true|false)(:.*)?");
    private static final String FIRST_LINE = "JoinOrder x = new JoinOrder();";

    private static int right;
    private static int wrong;

    public static void main(String[] args) throws IOException, ReflectiveOperationException {
        String readme = Files.readString(Path.of(System.getProperty("joinorder.readme", "README.md")));
        Matcher example = EXAMPLE.matcher(readme);
        if (example.find()) {
            makeCalls(example.group(1).split("\n"));
        } else {
            fault("there is no example");
        }
        must(readme.contains(".ci/run"), "how to run the tests is not told");
        for (Method m : JoinOrder.class.getDeclaredMethods()) {
            if (Modifier.isPublic(m.getModifiers())) {
                must(readme.contains("| `" + m.getName() + "("), "the table leaves out " + m.getName());
            }
        }
        System.out.println("ReadmeTests: " + right + " as due, " + wrong + " not");
        if (wrong != 0) {
            System.exit(1);
        }
    }

    private static void makeCalls(String[] lines) throws ReflectiveOperationException {
        must(lines[0].equals(FIRST_LINE), "the example begins with " + lines[0]);
        JoinOrder x = new JoinOrder();
        Set<String> made = new TreeSet<>();
        for (int i = 1; i < lines.length; i++) {
            Matcher call = CALL.matcher(lines[i]);
            if (call.matches()) {
                Method method = methodNamed(call.group(1));
                String answer = String.valueOf(method.invoke(x, arguments(method, call.group(2))));
                must(answer.equals(call.group(3)), lines[i] + " but it answered " + answer);
                made.add(method.getName());
            } else {
                fault("no call with its answer: " + lines[i]);
            }
        }
        for (Method m : JoinOrder.class.getDeclaredMethods()) {
            if (Modifier.isPublic(m.getModifiers())) {
                must(made.contains(m.getName()), "the example leaves out " + m.getName());
            }
        }
    }

    private static Method methodNamed(String name) {
        for (Method m : JoinOrder.class.getDeclaredMethods()) {
            if (Modifier.isPublic(m.getModifiers()) && m.getName().equals(name)) {
                return m;
            }
        }
        throw new IllegalArgumentException("the face has no " + name);
    }

    private static Object[] arguments(Method method, String text) {
        Class<?>[] types = method.getParameterTypes();
        String[] words = text.isEmpty() ? new String[0] : text.split(", ");
        if (words.length != types.length) {
            throw new IllegalArgumentException(method.getName() + " does not take (" + text + ")");
        }
        Object[] values = new Object[words.length];
        for (int i = 0; i < words.length; i++) {
            if (types[i] == boolean.class) {
                values[i] = Boolean.valueOf(words[i]);
            } else {
                values[i] = Integer.valueOf(words[i]);
            }
        }
        return values;
    }

    private static void must(boolean holds, String otherwise) {
        if (holds) {
            right++;
        } else {
            fault(otherwise);
        }
    }

    private static void fault(String what) {
        wrong++;
        System.out.println("README.md: " + what);
    }
}
