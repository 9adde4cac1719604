import java.io.PrintWriter;
import java.io.StringWriter;
import java.util.ArrayList;
import java.util.HashMap;
import java.util.List;
import java.util.Map;
import java.util.Set;
import java.util.TreeMap;
import java.util.TreeSet;
import java.util.regex.Matcher;
import java.util.regex.Pattern;
import java.util.spi.ToolProvider;

/** LANGUAGE.md's rule 11, that calls which are no recursion go at most eight deep, seen from the compiled class. */
public final class CallsTest {
    private static final int MOST_DEEP = 8;
    private static final Pattern METHOD = Pattern.compile("^  [^ ].*?([\\w$]+)\\(.*\\);$");
    private static final Pattern CALL = Pattern.compile("// Method (?:([\\w$/]+)\\.)?\"?([\\w<>]+)\"?:");

    private final Map<String, Set<String>> calls = new TreeMap<>();
    private final Map<String, Set<String>> reached = new HashMap<>();

    public static void main(String[] args) {
        Checks checks = new Checks();
        CallsTest test = new CallsTest();
        List<Class<?>> classes = new ArrayList<>(List.of(ShutBench.class.getDeclaredClasses()));
        classes.add(ShutBench.class);
        for (Class<?> each : classes) {
            test.read(each.getName());
        }
        checks.due("methods: " + test.calls.size(), test.calls.size() > 100 ? 1 : 0, 1);
        for (String method : test.calls.keySet()) {
            List<String> deepest = test.deepest(method);
            checks.due(deepest + " is too deep", deepest.size() > MOST_DEEP ? 1 : 0, 0);
        }
        checks.close("CallsTest");
    }

    private void read(String name) {
        StringWriter told = new StringWriter();
        PrintWriter printer = new PrintWriter(told);
        ToolProvider javap = ToolProvider.findFirst("javap").orElseThrow();
        javap.run(printer, printer, "-c", "-p", "-cp", System.getProperty("java.class.path"), name);
        Set<String> called = new TreeSet<>();
        for (String line : told.toString().split("\\R")) {
            Matcher method = METHOD.matcher(line);
            Matcher call = CALL.matcher(line);
            if (method.matches()) {
                String made = name.endsWith(method.group(1)) ? "<init>" : method.group(1);
                called = calls.computeIfAbsent(name + "." + made, key -> new TreeSet<>());
            } else if (call.find()) {
                String owner = call.group(1) == null ? name : call.group(1);
                if (owner.startsWith("ShutBench")) {
                    called.add(owner + "." + call.group(2));
                }
            }
        }
    }

    private Set<String> reachedFrom(String method) {
        Set<String> known = reached.get(method);
        if (known == null) {
            known = new TreeSet<>();
            List<String> waiting = new ArrayList<>(calls.getOrDefault(method, Set.of()));
            while (!waiting.isEmpty()) {
                String next = waiting.remove(waiting.size() - 1);
                if (known.add(next)) {
                    waiting.addAll(calls.getOrDefault(next, Set.of()));
                }
            }
            reached.put(method, known);
        }
        return known;
    }

    /** The longest chain of calls; those that call one another count as one. */
    private List<String> deepest(String method) {
        Set<String> ring = new TreeSet<>(Set.of(method));
        for (String other : reachedFrom(method)) {
            if (reachedFrom(other).contains(method)) {
                ring.add(other);
            }
        }
        List<String> longest = List.of();
        for (String inside : ring) {
            for (String next : calls.getOrDefault(inside, Set.of())) {
                List<String> chain = ring.contains(next) ? List.of() : deepest(next);
                longest = chain.size() > longest.size() ? chain : longest;
            }
        }
        List<String> whole = new ArrayList<>(List.of(String.join(" and ", ring)));
        whole.addAll(longest);
        return whole;
    }
}
