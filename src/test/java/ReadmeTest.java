import java.io.IOException;
import java.lang.reflect.Method;
import java.nio.file.Files;
import java.nio.file.Path;
import java.util.List;
import java.util.TreeSet;
import java.util.regex.Matcher;
import java.util.regex.Pattern;

/** Makes each call of the examples in README.md, and compares its answer with the one told there. */
public final class ReadmeTest {
    private static final Pattern MAKING =
        Pattern.compile("RepairGroups groups = new RepairGroups\\((-?\\d+)\\);\\s+// [A-Z]+");
    private static final Pattern CALL =
        Pattern.compile("groups\\.(\\w+)\\(([-\\dL, ]*)\\);\\s+// (-?\\d+|true|false)(: .*)?");

    private static int wrong = 0;
    private static RepairGroups groups = null;
    private static final TreeSet<String> CALLED = new TreeSet<>();

    private static void fault(String text) {
        wrong++;
        System.out.println("README.md, " + text);
    }

    private static Method methodNamed(String name) {
        for (Method method : RepairGroups.class.getMethods()) {
            if (method.getDeclaringClass() == RepairGroups.class && method.getName().equals(name)) {
                return method;
            }
        }
        throw new IllegalArgumentException("no method " + name);
    }

    private static Object number(String text, Class<?> type) {
        if (type == long.class) {
            return Long.valueOf(text.replace("L", ""));
        }
        return Integer.valueOf(text);
    }

    private static String answer(String name, String arguments) throws ReflectiveOperationException {
        Method method = methodNamed(name);
        String[] texts = arguments.isEmpty() ? new String[0] : arguments.split(", ");
        Object[] values = new Object[texts.length];
        for (int i = 0; i < texts.length; i++) {
            values[i] = number(texts[i], method.getParameterTypes()[i]);
        }
        CALLED.add(name);
        return String.valueOf(method.invoke(groups, values));
    }

    private static void follow(int number, String line) throws ReflectiveOperationException {
        Matcher making = MAKING.matcher(line);
        Matcher call = CALL.matcher(line);
        if (making.matches()) {
            groups = new RepairGroups(Integer.parseInt(making.group(1)));
        } else if (!call.matches()) {
            fault("line " + number + " is no call with its answer: " + line);
        } else {
            String got = answer(call.group(1), call.group(2));
            if (!got.equals(call.group(3))) {
                fault("line " + number + ": " + line + " answered " + got);
            }
        }
    }

    /** An example for each method, or the search for examples has gone wrong. */
    private static void dueAllCalled() {
        for (Method method : RepairGroups.class.getMethods()) {
            if (method.getDeclaringClass() == RepairGroups.class && !CALLED.contains(method.getName())) {
                fault("no example calls " + method.getName());
            }
        }
    }

    public static void main(String[] args) throws IOException, ReflectiveOperationException {
        List<String> lines = Files.readAllLines(Path.of("README.md"));
        boolean inside = false;
        for (int i = 0; i < lines.size(); i++) {
            String line = lines.get(i);
            if (line.startsWith("```")) {
                inside = line.equals("```java");
            } else if (inside) {
                follow(i + 1, line);
            }
        }
        dueAllCalled();
        System.out.println(wrong == 0 ? "all answers are as told" : wrong + " answers are not as told");
        if (wrong != 0) {
            System.exit(1);
        }
    }
}
