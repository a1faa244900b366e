import java.io.File;
import java.lang.reflect.InvocationTargetException;
import java.lang.reflect.Method;
import java.lang.reflect.Modifier;
import java.nio.file.Files;
import java.nio.file.Path;
import java.util.HashMap;
import java.util.Map;
import java.util.regex.Matcher;
import java.util.regex.Pattern;

/** The lines of code in README.md answer what stands behind them, and README.md names all that there is. */
public final class ReadmeTest {
    private static final Checks CHECKS = new Checks();
    private static final Pattern MADE = Pattern.compile("ConvexConduit x = new ConvexConduit\\((\\d+)\\); +// .*");
    private static final Pattern CALL = Pattern.compile("(?:int (\\w+) = )?x\\.(\\w+)\\((.*)\\); +// (.*)");

    private final Map<String, Integer> named = new HashMap<>();
    private final Map<String, Integer> called = new HashMap<>();
    private ConvexConduit x;

    public static void main(String[] args) throws Exception {
        String text = Files.readString(Path.of("README.md"));
        ReadmeTest test = new ReadmeTest();
        test.code(text);
        test.names(text);
        CHECKS.end("ReadmeTest");
    }

    private void code(String text) throws Exception {
        int at = text.indexOf("```java\n");
        CHECKS.due("code in README.md", at >= 0 ? 1 : 0, 1);
        for (String line : text.substring(at, text.indexOf("\n```\n", at)).split("\n")) {
            Matcher made = MADE.matcher(line);
            Matcher call = CALL.matcher(line);
            if (made.matches()) {
                x = new ConvexConduit(Integer.parseInt(made.group(1)));
            } else if (call.matches()) {
                String answer = answerOf(method(call.group(2)), call.group(3), call.group(1));
                String told = call.group(4);
                boolean isTold = answer.isEmpty() || told.equals(answer) || told.startsWith(answer + ":");
                CHECKS.due(line + " .. answered " + answer, isTold ? 1 : 0, 1);
            } else {
                CHECKS.due("understood: " + line, line.isEmpty() || line.equals("```java") ? 1 : 0, 1);
            }
        }
    }

    private static Method method(String name) {
        for (Method method : ConvexConduit.class.getDeclaredMethods()) {
            if (method.getName().equals(name)) {
                return method;
            }
        }
        throw new IllegalStateException("no method " + name);
    }

    /** What the call answers, as README.md writes it; nothing for a call that has no answer. */
    private String answerOf(Method method, String arguments, String name) throws Exception {
        called.merge(method.getName(), 1, Integer::sum);
        String[] each = arguments.isEmpty() ? new String[0] : arguments.split(", ");
        Object[] values = new Object[each.length];
        for (int i = 0; i < each.length; i++) {
            values[i] = named.containsKey(each[i]) ? named.get(each[i]) : Integer.valueOf(each[i]);
        }
        try {
            Object answer = method.invoke(x, values);
            if (name != null) {
                named.put(name, (Integer) answer);
            }
            boolean isNone = answer != null && (Integer) answer == ConvexConduit.NONE;
            return answer == null ? "" : isNone ? "NONE" : answer.toString();
        } catch (InvocationTargetException e) {
            return "throws " + e.getCause().getClass().getSimpleName();
        }
    }

    private void names(String text) {
        for (Method method : ConvexConduit.class.getDeclaredMethods()) {
            if (Modifier.isPublic(method.getModifiers())) {
                String name = method.getName();
                CHECKS.due("in the table: " + name, text.contains("`" + name + "(") ? 1 : 0, 1);
                CHECKS.due("called: " + name, called.containsKey(name) ? 1 : 0, 1);
            }
        }
        String[] files = new File("src/test/java").list();
        CHECKS.due("tests there", files != null && files.length > 0 ? 1 : 0, 1);
        for (String file : files) {
            String name = file.replace(".java", "");
            CHECKS.due("named: " + name, !name.endsWith("Test") || text.contains("`" + name + "`") ? 1 : 0, 1);
        }
    }
}
