import java.lang.reflect.Method;
import java.nio.file.Files;
import java.nio.file.Path;
import java.util.regex.Matcher;
import java.util.regex.Pattern;

/** Runs the examples of README.md, and compares the answers that stand behind the calls; from the project's root. */
public final class ReadmeTest {
    private static final String NEW = "RuleDepths table = new RuleDepths();";
    private static final Pattern CALL = Pattern.compile("table\\.(\\w+)\\(([^)]*)\\); +// ([-\\w]+)(:.*)?");
    private static final int LEAST_CALLS = 70;

    private static RuleDepths table;
    private static int calls;

    public static void main(String[] args) throws Exception {
        boolean inExample = false;
        for (String line : Files.readAllLines(Path.of("README.md"))) {
            if (line.startsWith("```")) {
                inExample = line.equals("```java");
            } else if (inExample) {
                run(line);
            }
        }
        Due.holds("the examples have only " + calls + " calls", calls >= LEAST_CALLS);
        constants();
        Due.end();
    }

    private static void run(String line) throws Exception {
        Matcher call = CALL.matcher(line);
        if (line.equals(NEW)) {
            table = new RuleDepths();
        } else if (call.matches()) {
            calls++;
            Due.is(line, answer(call.group(1), call.group(2)), number(call.group(3)));
        } else {
            Due.holds("this line of an example is no call with its answer: " + line, false);
        }
    }

    private static int answer(String name, String arguments) throws Exception {
        for (Method method : RuleDepths.class.getDeclaredMethods()) {
            if (method.getName().equals(name)) {
                String[] written = arguments.isEmpty() ? new String[0] : arguments.split(", ");
                Object[] values = new Object[written.length];
                for (int i = 0; i < values.length; i++) {
                    values[i] = value(written[i]);
                }
                return (int) method.invoke(table, values);
            }
        }
        throw new IllegalStateException("there is no call " + name);
    }

    private static Object value(String written) {
        if (written.startsWith("'")) {
            return written.charAt(1);
        }
        if (written.equals("true") || written.equals("false")) {
            return Boolean.valueOf(written);
        }
        return Integer.valueOf(written);
    }

    private static int number(String written) throws Exception {
        return written.matches("-?\\d+") ? Integer.parseInt(written)
                : RuleDepths.class.getField(written).getInt(null);
    }

    /** The table of the constants has each of them with its number. */
    private static void constants() throws Exception {
        String readme = Files.readString(Path.of("README.md"));
        for (String name : new String[] {"UNKNOWN", "OUT_OF_RANGE", "FULL", "DUPLICATE", "REFUSED", "NONE"}) {
            Due.holds("README.md tells of " + name, readme.contains("| `" + name + "` | " + number(name) + " |"));
        }
        for (Method method : RuleDepths.class.getMethods()) {
            if (method.getDeclaringClass() == RuleDepths.class) {
                Due.holds("README.md tells of " + method.getName(), readme.contains("| `" + method.getName() + "("));
            }
        }
    }
}
