import java.io.PrintWriter;
import java.io.StringWriter;
import java.util.ArrayList;
import java.util.HashMap;
import java.util.List;
import java.util.Map;
import java.util.Set;
import java.util.TreeMap;
import java.util.TreeSet;
import java.util.regex.Matcher;
import java.util.regex.Pattern;
import java.util.spi.ToolProvider;

/** Rules 4, 8 and 11 as the compiled class tells them: what it calls of the library, how deep, what recurs. */
public final class DepthTest {
    private static final Pattern METHOD = Pattern.compile("^  \\S.*?([\\w$]+)\\(.*\\);$");
    private static final Pattern CALL = Pattern.compile("invoke\\w+ .*// (?:Interface)?Method (.+?):");

    private static final Set<String> LIBRARY = Set.of("java/lang/Object.<init>", "java/lang/Integer.bitCount",
        "java/lang/Math.floorMod", "java/lang/Math.max", "java/lang/Math.min", "java/lang/String.charAt",
        "java/lang/String.indexOf", "java/lang/String.length", "java/lang/System.arraycopy", "java/util/Arrays.fill");

    private static final Map<String, Set<String>> calls = new TreeMap<>();
    private static final Map<String, Integer> depths = new HashMap<>();

    public static void main(String[] args) throws Exception {
        Check check = new Check("DepthTest");
        List<Class<?>> all = new ArrayList<>(List.of(YawnRoute.class.getDeclaredClasses()));
        all.add(YawnRoute.class);
        String path = YawnRoute.class.getProtectionDomain().getCodeSource().getLocation().getPath();
        for (Class<?> c : all) {
            read(path, c.getName());
        }
        for (Set<String> called : calls.values()) {
            for (String method : called) {
                check.holds("rule 4: " + method, method.startsWith("YawnRoute") || LIBRARY.contains(method));
            }
        }
        Set<String> recurring = new TreeSet<>();
        for (String method : calls.keySet()) {
            if (reached(method).contains(method)) {
                recurring.add(method);
            }
        }
        for (String method : recurring) {
            check.holds(method + " may recur", method.startsWith("YawnRoute$LawReader.read"));
        }
        check.due("methods that recur", recurring.size(), 8);
        int deepest = 0;
        for (String method : calls.keySet()) {
            int depth = depth(method, recurring);
            deepest = Math.max(deepest, depth);
            check.holds("rule 11: " + method + " goes " + depth + " deep", depth <= 8);
        }
        System.out.println("DepthTest: " + calls.size() + " methods, " + deepest + " deep");
        check.holds("methods were found", calls.size() > 150 && deepest > 4);
        check.end();
    }

    private static void read(String path, String name) {
        StringWriter out = new StringWriter();
        PrintWriter writer = new PrintWriter(out);
        ToolProvider javap = ToolProvider.findFirst("javap").orElseThrow();
        javap.run(writer, writer, "-c", "-p", "-cp", path, name);
        writer.flush();
        Set<String> now = new TreeSet<>();
        for (String line : out.toString().split("\n")) {
            Matcher method = METHOD.matcher(line);
            Matcher call = CALL.matcher(line);
            if (method.find()) {
                now = calls.computeIfAbsent(name + "." + (method.group(1).equals(name) ? "<init>" : method.group(1)),
                    n -> new TreeSet<>());
            } else if (call.find()) {
                String called = call.group(1).replace("\"", "");
                now.add(called.contains(".") ? called : name + "." + called);
            }
        }
    }

    private static Set<String> reached(String method) {
        Set<String> all = new TreeSet<>();
        List<String> open = new ArrayList<>(calls.getOrDefault(method, Set.of()));
        while (!open.isEmpty()) {
            String next = open.remove(open.size() - 1);
            if (all.add(next)) {
                open.addAll(calls.getOrDefault(next, Set.of()));
            }
        }
        return all;
    }

    /** The library's own methods count, too; what recurs counts once. */
    private static int depth(String method, Set<String> recurring) {
        Integer known = depths.get(method);
        if (known != null) {
            return known;
        }
        Set<String> next = new TreeSet<>(calls.getOrDefault(method, Set.of()));
        if (recurring.contains(method)) {
            recurring.forEach(r -> next.addAll(calls.get(r)));
            next.removeAll(recurring);
        }
        int deepest = 0;
        for (String called : next) {
            deepest = Math.max(deepest, depth(called, recurring));
        }
        depths.put(method, deepest + 1);
        return deepest + 1;
    }
}
