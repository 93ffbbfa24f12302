import java.lang.reflect.InvocationTargetException;
import java.lang.reflect.Method;
import java.lang.reflect.Modifier;
import java.nio.file.Files;
import java.nio.file.Path;
import java.util.ArrayList;
import java.util.List;
import java.util.Set;
import java.util.TreeSet;
import java.util.regex.Matcher;
import java.util.regex.Pattern;

/** Makes the calls that README.md shows, in their order: each answers what stands behind it. */
public final class ReadmeTest {
    private static final String NEW_OBJECT = "TiedFrame x = new TiedFrame();";
    private static final Pattern CALL = Pattern.compile("x\\.(\\w+)\\(([^()]*)\\);(?:\\s+// (.*))?");
    private static final Pattern ANSWER = Pattern.compile("(-?\\d+|true|false|throws \\w+)(?::? .*)?");

    private static TiedFrame x = null;
    private static final Set<String> shown = new TreeSet<>();

    public static void main(String[] args) throws Exception {
        for (String line : javaLines(Files.readAllLines(Path.of("README.md")))) {
            follow(line);
        }
        Check.due("the calls that README.md shows", face(), () -> shown);
        Check.end("ReadmeTest");
    }

    private static List<String> javaLines(List<String> page) {
        List<String> lines = new ArrayList<>();
        boolean inside = false;
        for (String line : page) {
            if (line.startsWith("```")) {
                inside = line.equals("```java");
            } else if (inside && !line.isBlank()) {
                lines.add(line.trim());
            }
        }
        return lines;
    }

    private static void follow(String line) {
        if (line.equals(NEW_OBJECT)) {
            x = new TiedFrame();
            return;
        }
        Matcher call = CALL.matcher(line);
        // A line that can't be followed would be a promise that nobody looks at.
        if (Check.due("can be followed: " + line, true, () -> x != null && call.matches())) {
            make(line, call.group(1), call.group(2), call.group(3) == null ? "" : call.group(3));
        }
    }

    private static void make(String line, String name, String told, String behind) {
        String[] words = told.isBlank() ? new String[0] : told.split(",\\s*");
        Method method = methodOf(name, words.length);
        if (!Check.due("is of the face: " + line, true, () -> method != null)) {
            return;
        }
        shown.add(name);
        Object[] values = new Object[words.length];
        for (int k = 0; k < words.length; k++) {
            values[k] = method.getParameterTypes()[k] == boolean.class
                ? (Object) Boolean.valueOf(words[k]) : (Object) Integer.valueOf(words[k]);
        }
        Check.due(line, dueAnswer(method, behind), () -> invoked(method, values));
    }

    private static String dueAnswer(Method method, String behind) {
        Matcher answer = ANSWER.matcher(behind);
        if (answer.matches()) {
            return answer.group(1).replace("throws ", "throws.");
        }
        return method.getReturnType() == void.class ? "null" : "an answer that is told";
    }

    private static Object invoked(Method method, Object[] values) throws Exception {
        try {
            return method.invoke(x, values);
        } catch (InvocationTargetException thrown) {
            throw (Exception) thrown.getCause();
        }
    }

    private static Method methodOf(String name, int parameters) {
        for (Method method : TiedFrame.class.getDeclaredMethods()) {
            if (Modifier.isPublic(method.getModifiers()) && method.getName().equals(name)
                && method.getParameterCount() == parameters) {
                return method;
            }
        }
        return null;
    }

    private static Set<String> face() {
        Set<String> names = new TreeSet<>();
        for (Method method : TiedFrame.class.getDeclaredMethods()) {
            if (Modifier.isPublic(method.getModifiers())) {
                names.add(method.getName());
            }
        }
        return names;
    }
}
