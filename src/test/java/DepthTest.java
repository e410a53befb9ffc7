import java.io.PrintWriter;
import java.io.StringWriter;
import java.util.ArrayList;
import java.util.List;
import java.util.Map;
import java.util.Optional;
import java.util.TreeMap;
import java.util.TreeSet;
import java.util.regex.Matcher;
import java.util.regex.Pattern;
import java.util.spi.ToolProvider;

/** Rules 8 and 11 of LANGUAGE.md: no method calls itself, and calls go at most eight deep, as javap tells them. */
public final class DepthTest {
    private static final int DEEPEST = 8;
    private static final Pattern CLASS = Pattern.compile("^(?:\\w+ )*class (\\S+).*");
    private static final Pattern METHOD = Pattern.compile("^  (?:\\S+ )*(\\S+)\\(.*");
    private static final Pattern CALLED = Pattern.compile(".*// Method (\\S+?):.*");

    private final Map<String, TreeSet<String>> calls = new TreeMap<>();

    public static void main(String[] args) {
        Optional<ToolProvider> javap = ToolProvider.findFirst("javap");
        if (javap.isEmpty()) {
            System.out.println("there is no javap here: nothing was looked at");
            return;
        }
        DepthTest test = new DepthTest();
        test.readCalls(listing(javap.get()));
        int deepest = 0;
        for (String method : test.calls.keySet()) {
            deepest = Math.max(deepest, test.depth(method, new ArrayList<>()));
        }
        // A listing that was read wrong would have no calls at all.
        Checks.due("calls are seen", deepest > 4, true);
        Checks.due("11: calls go " + deepest + " deep, at most eight", deepest <= DEEPEST, true);
        Checks.end();
    }

    private static String listing(ToolProvider javap) {
        List<String> asked = new ArrayList<>(List.of("-c", "-p", "-cp", System.getProperty("java.class.path"),
                "TrialConverter"));
        for (Class<?> inside : TrialConverter.class.getDeclaredClasses()) {
            asked.add(inside.getName());
        }
        StringWriter listing = new StringWriter();
        PrintWriter out = new PrintWriter(listing);
        int failed = javap.run(out, out, asked.toArray(new String[0]));
        Checks.due("javap", failed, 0);
        return listing.toString();
    }

    private void readCalls(String listing) {
        String inside = "";
        String method = "";
        for (String line : listing.split("\\R")) {
            Matcher itsClass = CLASS.matcher(line);
            Matcher itsMethod = METHOD.matcher(line);
            Matcher called = CALLED.matcher(line);
            if (itsClass.matches()) {
                inside = itsClass.group(1);
            } else if (itsMethod.matches()) {
                String name = itsMethod.group(1);
                method = inside + "." + (name.equals(inside) ? "<init>" : name);
                calls.putIfAbsent(method, new TreeSet<>());
            } else if (called.matches() && calls.containsKey(method)) {
                String name = called.group(1).replace("\"", "");
                calls.get(method).add(name.contains(".") ? name : inside + "." + name);
            }
        }
    }

    /** How many methods stand open at once; the library's own are not looked into. */
    private int depth(String method, List<String> open) {
        Checks.due("8: " + method + " calls itself", open.contains(method), false);
        if (!calls.containsKey(method) || open.contains(method)) {
            return 0;
        }
        open.add(method);
        int behind = 0;
        for (String next : calls.get(method)) {
            behind = Math.max(behind, depth(next, open));
        }
        open.remove(open.size() - 1);
        return 1 + behind;
    }
}
