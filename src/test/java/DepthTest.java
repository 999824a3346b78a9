import java.io.File;
import java.io.PrintWriter;
import java.io.StringWriter;
import java.net.URISyntaxException;
import java.util.ArrayList;
import java.util.HashMap;
import java.util.List;
import java.util.Map;
import java.util.Optional;
import java.util.Set;
import java.util.TreeSet;
import java.util.regex.Matcher;
import java.util.regex.Pattern;
import java.util.spi.ToolProvider;

/** LANGUAGE.md 8 and 11: which method calls which, the library's own counted: none calls itself, and they go eight deep at most. */
public final class DepthTest {
    private static final int DEEPEST = 8;
    private static final Pattern HEAD = Pattern.compile("^ {2}\\S.*?([\\w$.]+)\\(.*\\).*;$");
    private static final Pattern CALL = Pattern.compile("invoke\\w+ +#.*// (?:Interface)?Method ([^:]+):");
    private final Map<String, Set<String>> calls = new HashMap<>();
    private int wrong;

    public static void main(String[] args) throws URISyntaxException {
        Optional<ToolProvider> javap = ToolProvider.findFirst("javap");
        if (javap.isEmpty()) {
            System.out.println("DepthTest: this Java can't show what calls what");
            return;
        }
        DepthTest test = new DepthTest();
        File[] files = new File(EbbIsland.class.getProtectionDomain().getCodeSource().getLocation().toURI())
                .listFiles((place, name) -> name.matches("EbbIsland(\\$\\w+)?\\.class"));
        for (File file : files) {
            test.read(javap.get(), file);
        }
        int deepest = 0;
        for (String method : new TreeSet<>(test.calls.keySet())) {
            deepest = Math.max(deepest, test.deepest(method, new ArrayList<>()));
        }
        System.out.println("DepthTest: " + test.calls.size() + " methods, " + deepest + " deep, " + test.wrong + " wrong");
        System.exit(test.wrong == 0 && deepest > 1 ? 0 : 1);
    }

    private void read(ToolProvider javap, File file) {
        StringWriter out = new StringWriter();
        javap.run(new PrintWriter(out), new PrintWriter(System.err), "-c", "-p", file.getPath());
        String type = file.getName().replace(".class", "");
        String method = "";
        for (String line : out.toString().split("\n")) {
            Matcher head = HEAD.matcher(line);
            Matcher call = CALL.matcher(line);
            if (head.find()) {
                method = type + "." + (head.group(1).equals(type) ? "<init>" : head.group(1));
                calls.put(method, new TreeSet<>());
            } else if (call.find() && !call.group(1).contains("java/lang/Object")) {
                String name = call.group(1).replace("\"", "");
                calls.get(method).add(name.contains(".") ? name : type + "." + name);
            }
        }
    }

    private int deepest(String method, List<String> above) {
        if (above.contains(method)) {
            wrong++;
            System.out.println(method + " calls itself");
            return 0;
        }
        above.add(method);
        if (above.size() > DEEPEST) {
            wrong++;
            System.out.println(above);
        }
        int deepest = above.size();
        for (String called : calls.getOrDefault(method, Set.of())) {
            deepest = Math.max(deepest, deepest(called, above));
        }
        above.remove(above.size() - 1);
        return deepest;
    }
}
