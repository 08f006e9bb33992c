import java.io.IOException;
import java.lang.reflect.InvocationTargetException;
import java.lang.reflect.Method;
import java.nio.file.Files;
import java.nio.file.Path;
import java.util.HashMap;
import java.util.Map;
import java.util.regex.Matcher;
import java.util.regex.Pattern;

/** The examples of README.md, done line by line: where a remark begins with an answer and a colon, it is due. */
final class ReadmeTest {
    private static final Check check = new Check();
    private static final Pattern CALL =
            Pattern.compile("(?:int (\\w+) = )?x\\.(\\w+)\\((.*?)\\);\\s*(?://\\s*(?:(-?\\d+|true|false|throws \\w+):)?.*)?");

    private static PlanJudge x;
    private static final Map<String, Object> names = new HashMap<>();
    private static int answers;

    private ReadmeTest() {
    }

    public static void main(String[] args) throws IOException, IllegalAccessException {
        boolean inside = false;
        for (String line : Files.readAllLines(Path.of("README.md"))) {
            if (line.startsWith("```")) {
                inside = line.equals("```java");
            } else if (inside && !line.isBlank()) {
                doLine(line.trim());
            }
        }
        check.part("README.md");
        check.so("it tells answers: " + answers, answers > 20);
        check.close();
    }

    private static void doLine(String line) throws IllegalAccessException {
        check.part(line);
        if (line.startsWith("PlanJudge x = new PlanJudge();")) {
            x = new PlanJudge();
            names.clear();
            return;
        }
        Matcher call = CALL.matcher(line);
        boolean known = call.matches();
        check.so("is a call", known);
        if (known) {
            Object got = answer(call.group(2), call.group(3));
            if (call.group(1) != null) {
                names.put(call.group(1), got);
            }
            compare(String.valueOf(got), call.group(4));
        }
    }

    /** A call that throws and doesn't say so is never right. */
    private static void compare(String got, String due) {
        answers += due == null ? 0 : 1;
        check.so("answered " + got, due == null ? !got.startsWith("throws ") : got.equals(due));
    }

    private static Object answer(String name, String list) throws IllegalAccessException {
        String[] words = list.isBlank() ? new String[0] : list.split(",");
        Object[] values = new Object[words.length];
        for (int i = 0; i < words.length; i++) {
            values[i] = valueOf(words[i].trim());
        }
        try {
            return method(name).invoke(x, values);
        } catch (InvocationTargetException e) {
            return "throws " + e.getCause().getClass().getSimpleName();
        }
    }

    private static Object valueOf(String word) {
        if (names.containsKey(word)) {
            return names.get(word);
        }
        return word.equals("true") || word.equals("false") ? (Object) Boolean.valueOf(word) : Integer.valueOf(word);
    }

    private static Method method(String name) {
        for (Method m : PlanJudge.class.getMethods()) {
            if (m.getName().equals(name)) {
                return m;
            }
        }
        throw new IllegalStateException("no method " + name);
    }
}
