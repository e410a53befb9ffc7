import java.lang.reflect.Constructor;
import java.lang.reflect.Field;
import java.lang.reflect.Method;
import java.lang.reflect.Modifier;
import java.nio.file.Files;
import java.nio.file.Path;
import java.util.ArrayList;
import java.util.Arrays;
import java.util.List;
import java.util.TreeSet;
import java.util.regex.Matcher;
import java.util.regex.Pattern;

/** The class's face is the document's face and nothing more. */
public final class FaceTest {
    public static void main(String[] args) throws Exception {
        Class<?> face = TrialConverter.class;
        Checks.due("modifiers", Modifier.toString(face.getModifiers()), "public final");
        Checks.due("methods", methodsOf(face), methodsOfDocument(Path.of(args[0])));
        Checks.due("constructors", Arrays.toString(face.getDeclaredConstructors()),
                "[public TrialConverter()]");
        fieldsAreHidden(face);
        for (Class<?> inside : face.getDeclaredClasses()) {
            Checks.due(inside + " is static", Modifier.isStatic(inside.getModifiers()), true);
            Checks.due(inside + " is hidden", Modifier.isPublic(inside.getModifiers()), false);
        }
        for (Constructor<?> made : face.getDeclaredConstructors()) {
            Checks.due("constructor's exceptions", made.getExceptionTypes().length, 0);
        }
        constantsAreDue();
        Checks.end();
    }

    private static void constantsAreDue() {
        Checks.due("NONE", TrialConverter.NONE, -1);
        Checks.due("SYNTAX_ERROR", TrialConverter.SYNTAX_ERROR, -2);
        Checks.due("VALUE_ERROR", TrialConverter.VALUE_ERROR, -3);
        Checks.due("TOO_MANY", TrialConverter.TOO_MANY, -4);
    }

    private static void fieldsAreHidden(Class<?> face) {
        TreeSet<String> open = new TreeSet<>();
        for (Field field : face.getDeclaredFields()) {
            if (!Modifier.isPrivate(field.getModifiers())) {
                open.add(Modifier.toString(field.getModifiers()) + " " + field.getType() + " " + field.getName());
            }
        }
        Checks.due("open fields", open.toString(), "[public static final int NONE, "
                + "public static final int SYNTAX_ERROR, public static final int TOO_MANY, "
                + "public static final int VALUE_ERROR]");
    }

    private static TreeSet<String> methodsOf(Class<?> face) {
        TreeSet<String> open = new TreeSet<>();
        TreeSet<String> hidden = new TreeSet<>();
        for (Method method : face.getDeclaredMethods()) {
            if (Modifier.isPrivate(method.getModifiers())) {
                hidden.add(method.getName());
            } else {
                open.add(signature(method));
            }
        }
        for (Method method : face.getDeclaredMethods()) {
            boolean shared = !Modifier.isPrivate(method.getModifiers()) && hidden.contains(method.getName());
            Checks.due(method.getName() + " is a hidden method's name too", shared, false);
        }
        return open;
    }

    private static String signature(Method method) {
        List<String> thrown = new ArrayList<>();
        for (Class<?> type : method.getExceptionTypes()) {
            thrown.add(type.getSimpleName());
        }
        List<String> taken = new ArrayList<>();
        for (Class<?> type : method.getParameterTypes()) {
            taken.add(type.getName());
        }
        return Modifier.toString(method.getModifiers()) + " " + method.getReturnType() + " " + method.getName()
                + taken + thrown;
    }

    private static TreeSet<String> methodsOfDocument(Path document) throws Exception {
        Pattern line = Pattern.compile("^    public (\\w+) (\\w+)\\(([^)]*)\\)(?: throws ([^;]*))?;$");
        TreeSet<String> open = new TreeSet<>();
        for (String text : Files.readAllLines(document)) {
            Matcher match = line.matcher(text);
            if (match.matches()) {
                List<String> taken = new ArrayList<>();
                for (String parameter : match.group(3).split(",\\s*")) {
                    if (!parameter.isEmpty()) {
                        taken.add(parameter.split(" ")[0]);
                    }
                }
                String thrown = match.group(4) == null ? "" : match.group(4);
                open.add("public " + match.group(1) + " " + match.group(2) + taken + "[" + thrown + "]");
            }
        }
        return open;
    }
}
