import java.io.File;
import java.io.PrintWriter;
import java.io.StringWriter;
import java.util.ArrayList;
import java.util.HashMap;
import java.util.HashSet;
import java.util.List;
import java.util.Map;
import java.util.Optional;
import java.util.Set;
import java.util.regex.Matcher;
import java.util.regex.Pattern;
import java.util.spi.ToolProvider;

/** LANGUAGE.md, rules 8 and 11: who calls whom, read from the class files; no recursion, at most eight deep. */
public final class DepthTest {
    private static final int MOST = 8;
    private static final Pattern METHOD = Pattern.compile("^  (?! ).*?([\\w$]+)\\(.*\\);$");
    private static final Pattern CALL = Pattern.compile("// (?:Interface)?Method (?:([\\w$/]+)\\.)?\"?([\\w<>]+)\"?:");

    private final Map<String, Set<String>> calls = new HashMap<>();

    private static String listing(ToolProvider javap, File file) {
        StringWriter out = new StringWriter();
        javap.run(new PrintWriter(out), new PrintWriter(out), "-c", "-p", file.getPath());
        return out.toString();
    }

    private void read(String name, String listing) {
        String method = null;
        for (String line : listing.split("\n")) {
            Matcher head = METHOD.matcher(line);
            if (head.find()) {
                method = name + "." + (head.group(1).equals(name) ? "<init>" : head.group(1));
                calls.putIfAbsent(method, new HashSet<>());
            }
            Matcher call = CALL.matcher(line);
            if (method != null && call.find())
                calls.get(method).add((call.group(1) == null ? name : call.group(1)) + "." + call.group(2));
        }
    }

    private List<String> deepest(String method, List<String> open) {
        List<String> path = new ArrayList<>(open);
        path.add(method);
        if (open.contains(method) || path.size() > 40) return path;
        List<String> best = path;
        for (String next : calls.getOrDefault(method, Set.of())) {
            List<String> one = deepest(next, path);
            if (one.size() > best.size()) best = one;
        }
        return best;
    }

    public static void main(String[] args) {
        Optional<ToolProvider> javap = ToolProvider.findFirst("javap");
        if (javap.isEmpty()) {
            System.out.println("DepthTest: no javap in this Java, so nothing can be looked at");
            return;
        }
        DepthTest test = new DepthTest();
        for (String part : System.getProperty("java.class.path").split(File.pathSeparator)) {
            File[] files = new File(part).listFiles((dir, name) -> name.matches("PairTexts(\\$\\w+)?\\.class"));
            if (files == null) continue;
            for (File file : files) test.read(file.getName().replace(".class", ""), listing(javap.get(), file));
        }
        Check.due("methods were read", test.calls.size() > 29 ? 1 : 0, 1);
        List<String> deepest = List.of();
        for (String method : test.calls.keySet()) {
            List<String> one = test.deepest(method, List.of());
            if (one.size() > deepest.size()) deepest = one;
        }
        System.out.println("deepest: " + deepest);
        Check.due("eight deep at most", deepest.size() <= MOST ? 1 : 0, 1);
        Check.end("DepthTest");
    }
}
