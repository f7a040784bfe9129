import java.lang.reflect.Constructor;
import java.lang.reflect.Field;
import java.lang.reflect.Method;
import java.lang.reflect.Modifier;
import java.nio.file.Files;
import java.nio.file.Path;
import java.util.Arrays;
import java.util.List;
import java.util.Set;
import java.util.TreeSet;
import java.util.regex.Matcher;
import java.util.regex.Pattern;

/** The class's face, and those rules of LANGUAGE.md that can be looked at from outside; run from the project's root. */
public final class LanguageTest {
    private static final List<String> FACE = List.of(
            "addRule(int,int,int,int,int,int,int)", "setCondition(int,int,int,int)", "put(int,boolean)",
            "removeRule(int)", "set(int,int)", "insert(int,int,int,int)", "update(int,int,int)", "delete(int)",
            "type(char)", "clearText()", "perform()", "undo()", "keep()", "restore()", "field(int,int)", "keyAt(int)",
            "rule(int,int)", "order(int,int,int)", "firing(int,int)", "total(int)", "ifInserted(int,int,int,int,int)",
            "ifUpdated(int,int,int,int)", "ifDeleted(int,int)", "depthFor(int,int,int)");
    private static final List<String> CONSTANTS = List.of("UNKNOWN=-1001", "OUT_OF_RANGE=-1002", "FULL=-1003",
            "DUPLICATE=-1004", "REFUSED=-1005", "NONE=-1006");
    private static final Pattern FORBIDDEN = Pattern.compile(
            "\\b(throw|throws|try|catch|synchronized|assert|import|package|volatile|native|equals|hashCode|toString"
            + "|Exception|Object|Arrays|Exact)\\b|->|::|\"");

    private static int wrong;

    public static void main(String[] args) throws Exception {
        face();
        classes();
        source();
        if (wrong != 0) {
            System.exit(1);
        }
        System.out.println("the face and the language are as due");
    }

    private static void check(boolean fits, String what) {
        if (!fits) {
            wrong++;
            System.out.println(what);
        }
    }

    private static void face() throws Exception {
        Set<String> methods = new TreeSet<>();
        for (Method method : RuleDepths.class.getDeclaredMethods()) {
            if (Modifier.isPrivate(method.getModifiers())) {
                continue;
            }
            String parameters = Arrays.toString(method.getParameterTypes()).replaceAll("[\\[\\] ]", "");
            methods.add(method.getName() + "(" + parameters + ")");
            check(method.getReturnType() == int.class, method + " does not answer an int");
            check(method.getModifiers() == Modifier.PUBLIC, method + " is not just public");
        }
        check(methods.equals(new TreeSet<>(FACE)), "the methods are " + methods);
        Set<String> constants = new TreeSet<>();
        for (Field field : RuleDepths.class.getDeclaredFields()) {
            if (!Modifier.isPrivate(field.getModifiers())) {
                constants.add(field.getName() + "=" + field.get(null));
                check(field.getModifiers() == (Modifier.PUBLIC | Modifier.STATIC | Modifier.FINAL), "" + field);
            }
        }
        check(constants.equals(new TreeSet<>(CONSTANTS)), "the constants are " + constants);
        Constructor<?>[] constructors = RuleDepths.class.getDeclaredConstructors();
        check(constructors.length == 1 && Modifier.isPublic(constructors[0].getModifiers())
                && constructors[0].getParameterCount() == 0, "the constructor is not as due");
        check(RuleDepths.class.getModifiers() == (Modifier.PUBLIC | Modifier.FINAL), "the class is not public final");
    }

    private static void classes() {
        Set<String> names = new TreeSet<>();
        for (Method method : RuleDepths.class.getDeclaredMethods()) {
            if (Modifier.isPublic(method.getModifiers())) {
                names.add(method.getName());
            }
        }
        Class<?>[] inside = RuleDepths.class.getDeclaredClasses();
        check(inside.length < 12, "there are more than twelve classes");
        for (Class<?> one : inside) {
            check(Modifier.isStatic(one.getModifiers()), one + " is not static");
            check(!Modifier.isPublic(one.getModifiers()), one + " is public");
            for (Method method : one.getDeclaredMethods()) {
                check(!names.contains(method.getName()), method + " bears the name of a public one");
                check(method.getParameterCount() <= 7, method + " takes too much");
            }
            long fields = Arrays.stream(one.getDeclaredFields()).filter(f -> !Modifier.isStatic(f.getModifiers())).count();
            check(fields <= 20, one + " has " + fields + " fields");
        }
    }

    private static void source() throws Exception {
        String text = Files.readString(Path.of("src/main/java/RuleDepths.java"));
        String code = text.replaceAll("(?s)/\\*.*?\\*/", "").replaceAll("//[^\\n]*", "");
        Matcher found = FORBIDDEN.matcher(code);
        while (found.find()) {
            check(false, "the source has " + found.group());
        }
        check(text.chars().allMatch(c -> c == '\n' || c >= 32 && c < 127), "the source has another sign");
        int lines = 0;
        for (String line : text.split("\n")) {
            // A method begins with a line that is indented and ends with "{", and ends with an empty line.
            lines = line.isBlank() ? 0 : lines + 1;
            check(lines <= 60, "a stretch of more than 60 lines ends with " + line);
            check(line.length() <= 120, "a line is too long: " + line);
        }
    }
}
