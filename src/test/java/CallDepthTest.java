import java.io.PrintWriter;
import java.io.StringWriter;
import java.net.URISyntaxException;
import java.nio.file.Path;
import java.util.ArrayList;
import java.util.Collections;
import java.util.HashMap;
import java.util.HashSet;
import java.util.List;
import java.util.Map;
import java.util.Set;
import java.util.TreeMap;
import java.util.regex.Matcher;
import java.util.regex.Pattern;
import java.util.spi.ToolProvider;

/** Rule 11 of LANGUAGE.md: calls go at most eight deep, one of the library at the end counted; none comes back to itself. */
public final class CallDepthTest {
    private static final int DEEPEST = 7;
    private static final Pattern HEAD = Pattern.compile("^  \\S.*?([\\w$]+)\\(.*\\).*;$");
    private static final Pattern BLOCK = Pattern.compile("^  static \\{\\};$");
    private static final Pattern DESCRIPTOR = Pattern.compile("^    descriptor: (\\(.*)$");
    private static final Pattern CALL = Pattern.compile("// Method (?:([\\w$]+)\\.)?\"?([\\w$<>]+)\"?:(\\S+)$");

    private final Map<String, Set<String>> calls = new TreeMap<>();
    private final Map<String, Integer> depths = new HashMap<>();

    private static List<Class<?>> classes() {
        List<Class<?>> all = new ArrayList<>(List.of(TurnedBonds.class));
        Collections.addAll(all, TurnedBonds.class.getDeclaredClasses());
        return all;
    }

    private void read(Path folder, Class<?> c) {
        StringWriter out = new StringWriter();
        ToolProvider javap = ToolProvider.findFirst("javap").orElseThrow();
        javap.run(new PrintWriter(out), new PrintWriter(System.err), "-p", "-c", "-s",
                folder.resolve(c.getName() + ".class").toString());
        String name = "";
        Set<String> called = new HashSet<>();
        for (String line : out.toString().split("\\R")) {
            Matcher head = HEAD.matcher(line);
            Matcher descriptor = DESCRIPTOR.matcher(line);
            Matcher call = CALL.matcher(line);
            if (head.matches()) {
                name = c.getName().endsWith(head.group(1)) ? "<init>" : head.group(1);
            } else if (BLOCK.matcher(line).matches()) {
                name = "<clinit>";
            } else if (descriptor.matches()) {
                called = new HashSet<>();
                calls.put(c.getName() + "." + name + descriptor.group(1), called);
            } else if (call.find()) {
                String owner = call.group(1) == null ? c.getName() : call.group(1);
                called.add(owner + "." + call.group(2) + call.group(3));
            }
        }
    }

    private int depth(String method, List<String> open, Check check) {
        Integer known = depths.get(method);
        if (known != null) {
            return known;
        }
        check.holds(method + " does not come back to itself", !open.contains(method));
        if (open.contains(method)) {
            return 1;
        }
        open.add(method);
        int deepest = 0;
        for (String next : calls.get(method)) {
            if (calls.containsKey(next)) {
                deepest = Math.max(deepest, depth(next, open, check));
            }
        }
        open.remove(method);
        depths.put(method, deepest + 1);
        return deepest + 1;
    }

    public static void main(String[] args) throws URISyntaxException {
        CallDepthTest test = new CallDepthTest();
        Path folder = Path.of(TurnedBonds.class.getProtectionDomain().getCodeSource().getLocation().toURI());
        for (Class<?> c : classes()) {
            test.read(folder, c);
        }
        Check check = new Check();
        int deepest = 0;
        for (String method : test.calls.keySet()) {
            int depth = test.depth(method, new ArrayList<>(), check);
            check.holds(method + " goes " + depth + " deep", depth <= DEEPEST);
            deepest = Math.max(deepest, depth);
        }
        check.holds("all calls of the face were seen", test.calls.size() > 150 && deepest > 4);
        check.close();
    }
}
