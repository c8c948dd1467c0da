import java.io.IOException;
import java.io.UncheckedIOException;
import java.lang.reflect.InvocationTargetException;
import java.lang.reflect.Method;
import java.lang.reflect.Modifier;
import java.nio.file.Files;
import java.nio.file.Path;
import java.util.HashSet;
import java.util.List;
import java.util.Set;
import java.util.regex.Matcher;
import java.util.regex.Pattern;

/** Makes the calls that README.md shows and compares each answer with the one that stands behind the call. */
public final class StoneRingsReadme extends StoneRingsChecks {
    private static final Pattern MADE = Pattern.compile("StoneRings stones = new StoneRings\\((\\d+), (\\d+)\\);.*");
    private static final Pattern CALL = Pattern.compile("stones\\.(\\w+)\\(([^)]*)\\);\\s*(?://\\s*(.*))?");

    private static final Set<String> called = new HashSet<>();
    private static StoneRings stones = null;

    private static List<String> readme() {
        try {
            return Files.readAllLines(Path.of("README.md"));
        } catch (IOException e) {
            throw new UncheckedIOException(e);
        }
    }

    private static Method methodOf(String name) {
        for (Method method : StoneRings.class.getDeclaredMethods()) {
            if (method.getName().equals(name)) {
                return method;
            }
        }
        throw new IllegalStateException("StoneRings has no method " + name);
    }

    private static Object[] numbersOf(Method method, String written) {
        String[] parts = written.split(", ");
        Object[] numbers = new Object[method.getParameterCount()];
        for (int k = 0; k < numbers.length; k++) {
            boolean truth = method.getParameterTypes()[k] == boolean.class;
            numbers[k] = truth ? (Object) Boolean.valueOf(parts[k]) : (Object) Integer.valueOf(parts[k]);
        }
        return numbers;
    }

    private static String answerOf(Method method, Object[] numbers) {
        try {
            Object answer = method.invoke(stones, numbers);
            return answer == null ? "" : answer.toString();
        } catch (InvocationTargetException e) {
            return "throws " + e.getCause().getClass().getSimpleName();
        } catch (IllegalAccessException e) {
            throw new IllegalStateException(e);
        }
    }

    /** What stands before the colon; a call that answers nothing may have any words behind it. */
    private static String dueOf(Method method, String comment) {
        String told = comment == null ? "" : comment.split(": ", 2)[0];
        if (method.getReturnType() == void.class && !told.startsWith("throws ")) {
            return "";
        }
        return told.equals("NONE") ? Integer.toString(NONE) : told;
    }

    private static void call(String line, Matcher match) {
        Method method = methodOf(match.group(1));
        called.add(match.group(1));
        String got = answerOf(method, numbersOf(method, match.group(2)));
        String want = dueOf(method, match.group(3));
        if (!got.equals(want)) {
            fail(line + " answered '" + got + "'");
        }
    }

    private static void follow(String line) {
        Matcher made = MADE.matcher(line);
        Matcher match = CALL.matcher(line);
        if (made.matches()) {
            stones = new StoneRings(Integer.parseInt(made.group(1)), Integer.parseInt(made.group(2)));
        } else if (match.matches()) {
            call(line, match);
        } else if (!line.isBlank()) {
            fail("README.md shows what is no call: " + line);
        }
    }

    private static void calls() {
        boolean shown = false;
        for (String line : readme()) {
            if (line.startsWith("```")) {
                shown = line.equals("```java");
            } else if (shown) {
                follow(line);
            }
        }
    }

    private static void everyCall() {
        for (Method method : StoneRings.class.getDeclaredMethods()) {
            boolean open = Modifier.isPublic(method.getModifiers());
            if (open && !called.contains(method.getName())) {
                fail("README.md does not show " + method.getName());
            }
        }
    }

    public static void main(String[] args) {
        sentence("What README.md says of a call's answer is what the class answers", StoneRingsReadme::calls);
        sentence("README.md says how to use the class: every call is shown", StoneRingsReadme::everyCall);
        end();
    }
}
