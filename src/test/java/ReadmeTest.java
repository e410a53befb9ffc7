import java.io.ByteArrayOutputStream;
import java.io.PrintStream;
import java.lang.reflect.Method;
import java.lang.reflect.Modifier;
import java.nio.file.Files;
import java.nio.file.Path;
import java.util.Arrays;
import java.util.Collections;
import java.util.List;
import java.util.Set;
import java.util.TreeSet;

/** README.md tells a program that is there, what it prints, and each call with its exceptions. */
public final class ReadmeTest {
    private static final Path README = Path.of("README.md");
    private static final Path EXAMPLE = Path.of("src/test/java/Example.java");
    private static final Set<String> CHANGES = Set.of("load", "setTable", "resetTable", "calibrate", "calibrateAll",
            "setNoise", "convert", "average", "forget", "restore");

    public static void main(String[] args) throws Exception {
        String readme = Files.readString(README);
        Checks.due("the program", block(readme, "java"), Files.readString(EXAMPLE));
        Checks.due("what it prints", printed(), block(readme, "text"));
        for (Method method : TrialConverter.class.getDeclaredMethods()) {
            if (Modifier.isPublic(method.getModifiers())) {
                rowIsDue(method, rowOf(method.getName(), readme));
            }
        }
        everyTestIsTold(readme);
        Checks.end();
    }

    /** The first block of a kind. */
    private static String block(String readme, String kind) {
        String start = "```" + kind + "\n";
        int from = readme.indexOf(start);
        int to = readme.indexOf("```\n", from + start.length());
        return from < 0 || to < 0 ? "no block" : readme.substring(from + start.length(), to);
    }

    private static String printed() {
        PrintStream before = System.out;
        ByteArrayOutputStream bytes = new ByteArrayOutputStream();
        System.setOut(new PrintStream(bytes, true));
        try {
            Example.main(new String[0]);
        } finally {
            System.setOut(before);
        }
        return bytes.toString().replace("\r\n", "\n");
    }

    private static String[] rowOf(String name, String readme) {
        for (String line : readme.split("\n")) {
            if (line.startsWith("| `" + name + "(")) {
                return line.substring(1).split("\\|", -1);
            }
        }
        return new String[] {"no row of " + name, "", ""};
    }

    private static void rowIsDue(Method method, String[] row) {
        String call = row[0].strip();
        String head = method.getName() + "(";
        int count = method.getParameterCount();
        int told = call.contains("()") ? 0 : call.split(",", -1).length;
        Checks.due(call + " is told", call.startsWith("`" + head), true);
        Checks.due(call + " takes", told, count);
        Checks.due(call + " is a change", call.endsWith("*"), CHANGES.contains(method.getName()));
        Checks.due(call + " answers something", row[1].isBlank(), false);
        Checks.due(call + " throws", letters(row[2]), letters(method));
    }

    /** The capital letters that stand alone, in their order. */
    private static String letters(String cell) {
        return String.join("", Arrays.stream(cell.split("\\W+")).filter(word -> word.matches("[A-Z]")).toList());
    }

    private static String letters(Method method) {
        List<String> known = List.of("IllegalStateException", "S", "IllegalArgumentException", "A",
                "IndexOutOfBoundsException", "I", "NoSuchElementException", "N");
        StringBuilder letters = new StringBuilder();
        for (Class<?> thrown : method.getExceptionTypes()) {
            letters.append(known.get(known.indexOf(thrown.getSimpleName()) + 1));
        }
        return letters.toString();
    }

    private static void everyTestIsTold(String readme) throws Exception {
        TreeSet<String> untold = new TreeSet<>();
        try (var files = Files.newDirectoryStream(EXAMPLE.getParent(), "*.java")) {
            for (Path file : files) {
                String name = file.getFileName().toString().replace(".java", "");
                if (!readme.contains("`" + name + "`")) {
                    untold.add(name);
                }
            }
        }
        Checks.due("files that are not told of", untold, Collections.emptySet());
    }
}
