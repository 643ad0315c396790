import java.io.IOException;
import java.lang.reflect.InvocationTargetException;
import java.lang.reflect.Method;
import java.lang.reflect.Modifier;
import java.nio.file.Files;
import java.nio.file.Path;
import java.util.Set;
import java.util.TreeSet;
import java.util.regex.Matcher;
import java.util.regex.Pattern;

/** Runs the calls that README.md shows, line by line, and compares them with the answers written behind them. */
public final class ReadmeTest {
    private static final String NEW_OBJECT = "LiftDrill drill = new LiftDrill();";
    private static final Pattern CALL = Pattern.compile("drill\\.(\\w+)\\((.*)\\); +// (throws \\w+|[-.\\w]+)(, .+)?");

    private final Set<String> notShown = new TreeSet<>();
    private LiftDrill drill;
    private int calls;
    private int wrong;

    public static void main(String[] args) throws IOException {
        ReadmeTest test = new ReadmeTest();
        test.run();
        System.out.println(test.calls + " calls shown, " + test.wrong + " wrong");
        if (test.wrong > 0) {
            System.exit(1);
        }
    }

    private void run() throws IOException {
        for (Method method : LiftDrill.class.getDeclaredMethods()) {
            if (Modifier.isPublic(method.getModifiers())) {
                notShown.add(method.getName());
            }
        }
        boolean inside = false;
        for (String line : Files.readAllLines(Path.of("README.md"))) {
            if (line.startsWith("```")) {
                inside = line.equals("```java");
                drill = null;
            } else if (inside) {
                readLine(line);
            }
        }
        if (!notShown.isEmpty()) {
            fail("README.md does not show " + notShown);
        }
    }

    private void readLine(String line) {
        Matcher call = CALL.matcher(line);
        if (line.equals(NEW_OBJECT)) {
            drill = new LiftDrill();
        } else if (drill == null || !call.matches()) {
            fail("not a call with its answer: " + line);
        } else {
            calls++;
            notShown.remove(call.group(1));
            String answer = answer(call.group(1), call.group(2));
            if (!answer.equals(call.group(3))) {
                fail(line + "  -- was " + answer);
            }
        }
    }

    private String answer(String name, String list) {
        String[] words = list.isEmpty() ? new String[0] : list.split(", ");
        for (Method method : LiftDrill.class.getDeclaredMethods()) {
            if (method.getName().equals(name) && method.getParameterCount() == words.length) {
                try {
                    return String.valueOf(method.invoke(drill, arguments(words)));
                } catch (InvocationTargetException e) {
                    return "throws " + e.getCause().getClass().getSimpleName();
                } catch (IllegalAccessException | IllegalArgumentException e) {
                    return "cannot be called: " + e;
                }
            }
        }
        return "no such method";
    }

    private static Object[] arguments(String[] words) {
        Object[] values = new Object[words.length];
        for (int i = 0; i < words.length; i++) {
            String word = words[i];
            if (word.equals("true") || word.equals("false")) {
                values[i] = Boolean.valueOf(word);
            } else if (word.matches("'.'")) {
                values[i] = (int) word.charAt(1);
            } else {
                values[i] = Integer.valueOf(word);
            }
        }
        return values;
    }

    private void fail(String what) {
        wrong++;
        System.out.println(what);
    }
}
