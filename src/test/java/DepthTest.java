import java.io.PrintWriter;
import java.io.StringWriter;
import java.util.ArrayList;
import java.util.List;
import java.util.Optional;
import java.util.Set;
import java.util.TreeMap;
import java.util.TreeSet;
import java.util.regex.Matcher;
import java.util.regex.Pattern;
import java.util.spi.ToolProvider;

/** Rule 11 of ../shared/LANGUAGE.md: calls go at most eight deep, and (rule 8) none comes back to itself. */
public final class DepthTest {
    private static final Check CHECK = new Check("DepthTest");
    private static final int MOST = 8;
    private static final TreeMap<String, Set<String>> CALLS = new TreeMap<>();

    public static void main(String[] args) {
        Optional<ToolProvider> javap = ToolProvider.findFirst("javap");
        if (javap.isEmpty()) {
            System.out.println("DepthTest: this Java has no javap to read the calls with");
            return;
        }
        List<String> all = new ArrayList<>(List.of("-c", "-p", "-cp", System.getProperty("java.class.path"), "LineDiagram"));
        for (Class<?> inside : LineDiagram.class.getDeclaredClasses()) {
            all.add(inside.getName());
        }
        StringWriter text = new StringWriter();
        javap.get().run(new PrintWriter(text), new PrintWriter(System.err), all.toArray(new String[0]));
        read(text.toString());
        CHECK.due("many methods are read", CALLS.size() > 100 ? 1 : 0, 1);
        int most = 0;
        for (String method : CALLS.keySet()) {
            most = Math.max(most, depth(method, ""));
        }
        System.out.println("DepthTest: calls go " + most + " deep");
        CHECK.end();
    }

    private static void read(String text) {
        String inside = "";
        Set<String> calls = new TreeSet<>();
        Pattern type = Pattern.compile("^\\S.*class (\\S+) .*\\{$"), head = Pattern.compile("^  (?:\\S+ )*([\\w.$]+)\\(.*\\);$");
        Pattern call = Pattern.compile(".*: invoke.*// Method (\\S+?):.*");
        for (String line : text.split("\n")) {
            Matcher m = type.matcher(line);
            if (m.matches()) {
                inside = m.group(1);
            }
            m = head.matcher(line);
            if (m.matches()) {
                calls = CALLS.computeIfAbsent(inside + "." + m.group(1), k -> new TreeSet<>());
            }
            m = call.matcher(line);
            if (m.matches()) {
                String name = m.group(1).replace("\"<init>\"", "new");
                calls.add(name.contains(".") ? name : inside + "." + name);
            }
        }
    }

    private static int depth(String method, String ahead) {
        if (ahead.contains(">" + method + ">")) {
            CHECK.due("a method that calls itself: " + ahead + method, 1, 0);
            return 0;
        }
        String chain = ahead + ">" + method + ">";
        int most = 0;
        for (String called : CALLS.getOrDefault(method, Set.of())) {
            most = Math.max(most, depth(called, chain));
        }
        CHECK.due(chain + " goes at most eight deep", chain.split(">>").length <= MOST ? 1 : 0, 1);
        return most + 1;
    }
}
