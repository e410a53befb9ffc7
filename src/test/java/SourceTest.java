import java.lang.reflect.Constructor;
import java.lang.reflect.Field;
import java.lang.reflect.Method;
import java.lang.reflect.Modifier;
import java.nio.file.Files;
import java.nio.file.Path;
import java.util.ArrayList;
import java.util.Arrays;
import java.util.List;
import java.util.Set;
import java.util.TreeSet;
import java.util.regex.Matcher;
import java.util.regex.Pattern;

/** What of LANGUAGE.md can be seen from the source and from the compiled classes; FaceTest sees rule 1. */
public final class SourceTest {
    private static final Path SOURCE = Path.of("src/main/java/TrialConverter.java");
    private static final Set<String> THROWN = Set.of("IllegalStateException", "IllegalArgumentException",
            "IndexOutOfBoundsException", "ArithmeticException", "UnsupportedOperationException",
            "NoSuchElementException", "RuntimeException");

    public static void main(String[] args) throws Exception {
        String code = withoutComments(Files.readString(SOURCE));
        String bare = code.replaceAll("\"[^\"\n]*\"", "\"\"");
        r1NoPackage(bare);
        r2NoLambdas(bare);
        r4LibraryAlone(bare);
        r6Exceptions(bare);
        r10NoJoinedTexts(bare);
        r11ShortMethods(code);
        List<Class<?>> classes = new ArrayList<>(List.of(TrialConverter.class.getDeclaredClasses()));
        classes.add(TrialConverter.class);
        due("11: at most twelve classes", classes.size() <= 12, true);
        for (Class<?> one : classes) {
            r3And5Fields(one);
            r11FewFieldsAndParameters(one);
        }
        Checks.end();
    }

    private static void due(String call, Object got, Object want) {
        Checks.due(call, got, want);
    }

    private static String withoutComments(String text) {
        return text.replaceAll("(?s)/\\*.*?\\*/", "").replaceAll("//[^\n]*", "");
    }

    private static TreeSet<String> found(String regex, String code) {
        TreeSet<String> all = new TreeSet<>();
        Matcher match = Pattern.compile(regex).matcher(code);
        while (match.find()) {
            all.add(match.group(1));
        }
        return all;
    }

    private static void r1NoPackage(String code) {
        due("1: package lines", found("(?m)^\\s*(package)\\b", code).toString(), "[]");
    }

    private static void r2NoLambdas(String code) {
        due("2: lambdas and method references", found("(->|::)", code).toString(), "[]");
    }

    private static void r4LibraryAlone(String code) {
        due("4: imports", found("(?m)^import ([^;]+);", code).toString(),
                "[java.util.Arrays, java.util.NoSuchElementException]");
        TreeSet<String> others = found("\\b((?:Arrays|System|Math|Integer|Long|String|StringBuilder)\\.\\w+)", code);
        others.removeAll(Set.of("Arrays.copyOf", "Arrays.copyOfRange", "Arrays.fill", "System.arraycopy", "Math.min",
                "Math.max", "Math.abs", "Math.floorMod", "Math.floorDiv"));
        due("4: other calls of the library", others.toString(), "[]");
        due("4: equals, hashCode, toString", found("\\b(equals|hashCode|toString|getClass)\\s*\\(", code).toString(),
                "[]");
    }

    private static void r6Exceptions(String code) {
        due("6: words", found("\\b(try|catch|finally|synchronized|assert|instanceof)\\b", code).toString(), "[]");
        TreeSet<String> thrown = found("\\bthrow new (\\w+)\\(\"\"\\);", code);
        due("6: exceptions of the rule", THROWN.containsAll(thrown), true);
        int throwing = code.split("\\bthrow\\b", -1).length;
        due("6: all are thrown with a written text", code.split("\\bthrow new \\w+\\(\"\"\\);", -1).length, throwing);
    }

    private static void r10NoJoinedTexts(String code) {
        due("10: texts joined by +", found("(\"\"\\s*\\+|\\+\\s*\"\")", code).toString(), "[]");
    }

    /** A method of the file begins four or eight blanks deep and ends with a brace as deep. */
    private static void r11ShortMethods(String code) {
        int start = 0;
        String end = "";
        String[] lines = code.split("\n");
        for (int n = 0; n < lines.length; n++) {
            Matcher head = Pattern.compile("^((?:    ){1,2})(?:\\w|\\[|\\]| )+\\([^;]*$").matcher(lines[n]);
            if (head.find() && end.isEmpty() && !lines[n].contains("class ")) {
                start = n;
                end = head.group(1) + "}";
            } else if (lines[n].equals(end)) {
                due("11: short is the method at line " + start, n - start < 60, true);
                end = "";
            }
        }
    }

    private static void r3And5Fields(Class<?> one) {
        for (Field field : one.getDeclaredFields()) {
            Class<?> type = field.getType();
            boolean isStatic = Modifier.isStatic(field.getModifiers());
            due("5: " + field + " is final", !isStatic || Modifier.isFinal(field.getModifiers()), true);
            due("5: " + field + " is a constant", !isStatic || type == int.class || type == boolean.class, true);
            Class<?> part = type.isArray() ? type.getComponentType() : type;
            boolean own = part == TrialConverter.class || part.getEnclosingClass() == TrialConverter.class;
            due("3: " + field, part.isPrimitive() || own || type == StringBuilder.class, true);
        }
    }

    private static void r11FewFieldsAndParameters(Class<?> one) {
        long fields = Arrays.stream(one.getDeclaredFields()).filter(f -> !Modifier.isStatic(f.getModifiers())).count();
        due("11: few fields in " + one, fields <= 20, true);
        for (Method method : one.getDeclaredMethods()) {
            due("11: few parameters of " + method, method.getParameterCount() <= 7, true);
        }
        for (Constructor<?> made : one.getDeclaredConstructors()) {
            due("11: few parameters of " + made, made.getParameterCount() <= 7, true);
        }
        due("2: static is " + one, one == TrialConverter.class || Modifier.isStatic(one.getModifiers()), true);
    }
}
