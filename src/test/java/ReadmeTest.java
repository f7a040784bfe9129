import java.lang.reflect.Array;
import java.lang.reflect.Field;
import java.lang.reflect.Method;
import java.lang.reflect.Modifier;
import java.nio.file.Files;
import java.nio.file.Path;
import java.util.Collections;
import java.util.IdentityHashMap;
import java.util.Locale;
import java.util.Set;
import java.util.regex.Matcher;
import java.util.regex.Pattern;

/**
 * Runs the examples of README.md, and compares the answers that stand behind the calls; also looks at the constants, the
 * names of the calls and the number of objects that it tells of. Run from the project's root.
 */
public final class ReadmeTest {
    private static final String NEW = "RuleDepths table = new RuleDepths();";
    private static final Pattern CALL = Pattern.compile("table\\.(\\w+)\\(([^)]*)\\); +// ([-\\w]+)(:.*)?");
    private static final int LEAST_CALLS = 70;

    private static RuleDepths table;
    private static int calls;

    private static final Set<Object> OBJECTS = Collections.newSetFromMap(new IdentityHashMap<>());
    /** The fields and elements of these objects. */
    private static int parts;

    public static void main(String[] args) throws Exception {
        boolean inExample = false;
        for (String line : Files.readAllLines(Path.of("README.md"))) {
            if (line.startsWith("```")) {
                inExample = line.equals("```java");
            } else if (inExample) {
                run(line);
            }
        }
        Due.holds("the examples have only " + calls + " calls", calls >= LEAST_CALLS);
        constants();
        objectsOfOne();
        Due.end();
    }

    private static void run(String line) throws Exception {
        Matcher call = CALL.matcher(line);
        if (line.equals(NEW)) {
            table = new RuleDepths();
        } else if (call.matches()) {
            calls++;
            Due.is(line, answer(call.group(1), call.group(2)), number(call.group(3)));
        } else {
            Due.holds("this line of an example is no call with its answer: " + line, false);
        }
    }

    private static int answer(String name, String arguments) throws Exception {
        for (Method method : RuleDepths.class.getDeclaredMethods()) {
            if (method.getName().equals(name)) {
                String[] written = arguments.isEmpty() ? new String[0] : arguments.split(", ");
                Object[] values = new Object[written.length];
                for (int i = 0; i < values.length; i++) {
                    values[i] = value(written[i]);
                }
                return (int) method.invoke(table, values);
            }
        }
        throw new IllegalStateException("there is no call " + name);
    }

    private static Object value(String written) {
        if (written.startsWith("'")) {
            return written.charAt(1);
        }
        if (written.equals("true") || written.equals("false")) {
            return Boolean.valueOf(written);
        }
        return Integer.valueOf(written);
    }

    private static int number(String written) throws Exception {
        return written.matches("-?\\d+") ? Integer.parseInt(written)
                : RuleDepths.class.getField(written).getInt(null);
    }

    /** The table of the constants has each of them with its number. */
    private static void constants() throws Exception {
        String readme = Files.readString(Path.of("README.md"));
        for (String name : new String[] {"UNKNOWN", "OUT_OF_RANGE", "FULL", "DUPLICATE", "REFUSED", "NONE"}) {
            Due.holds("README.md tells of " + name, readme.contains("| `" + name + "` | " + number(name) + " |"));
        }
        for (Method method : RuleDepths.class.getMethods()) {
            if (method.getDeclaringClass() == RuleDepths.class) {
                Due.holds("README.md tells of " + method.getName(), readme.contains("| `" + method.getName() + "("));
            }
        }
    }

    /** README.md tells how many objects and arrays one object consists of, with how many fields and elements. */
    private static void objectsOfOne() throws Exception {
        walk(new RuleDepths());
        String told = String.format(Locale.ROOT, "(%d, with %,d fields and elements)", OBJECTS.size(), parts);
        Due.holds("README.md does not tell of " + told, Files.readString(Path.of("README.md")).contains(told));
    }

    private static void walk(Object object) throws Exception {
        if (object == null || !OBJECTS.add(object)) {
            return;
        }
        if (object.getClass().isArray()) {
            parts += Array.getLength(object);
            for (int i = 0; object instanceof Object[] && i < Array.getLength(object); i++) {
                walk(Array.get(object, i));
            }
            return;
        }
        for (Field field : object.getClass().getDeclaredFields()) {
            if (!Modifier.isStatic(field.getModifiers())) {
                parts++;
                field.setAccessible(true);
                if (!field.getType().isPrimitive()) {
                    walk(field.get(object));
                }
            }
        }
    }
}
