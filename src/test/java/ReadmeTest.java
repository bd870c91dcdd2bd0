import java.io.File;
import java.nio.file.Files;
import java.nio.file.Path;
import java.util.ArrayList;
import java.util.List;
import java.util.Set;
import java.util.TreeSet;
import java.util.regex.Matcher;
import java.util.regex.Pattern;
import java.util.spi.ToolProvider;

/**
 * What README.md says of the class's use: its Java is compiled and run as it stands there, each call with
 * the answer that is shown behind it, and each picture with what the object shows at that place.
 */
public final class ReadmeTest {
    private static final Check CHECK = new Check("ReadmeTest");
    private static final Pattern CALL = Pattern.compile("x\\.(\\w+)\\(.*?\\);");
    private static final Pattern ROW = Pattern.compile("(x\\.\\w+\\(.*?\\));\\s+// (-?\\d+(?:\\.\\d+)?|[A-Z_]+)(?:: .*)?");
    private static final Set<String> SHOWN = new TreeSet<>();

    public static void main(String[] args) throws Exception {
        Path file = Path.of(args.length > 0 ? args[0] : "README.md");
        List<String> lines = Files.readAllLines(file);
        Path directory = Files.createTempDirectory("readme");
        Path source = directory.resolve("ReadmeCalls.java");
        Files.writeString(source, program(lines));
        // beside the other classes, so that its class belongs to their package
        String out = System.getProperty("java.class.path").split(File.pathSeparator)[0];
        ToolProvider javac = ToolProvider.findFirst("javac").orElseThrow();
        CHECK.due("javac of what README.md shows", javac.run(System.out, System.err, "-d", out, "-cp", out, source.toString()), 0);
        Files.delete(source);
        Files.delete(directory);
        Class.forName("ReadmeCalls").getMethod("run", Check.class).invoke(null, CHECK);
        CHECK.due("calls that are shown", String.join("\n", SHOWN), String.join("\n", methods()));
        tables(lines);
        numbers(String.join(" ", lines).replaceAll(" +", " "));
        CHECK.end();
    }

    // ---- calls

    /** The Java of the page as one class: methods as they are, and all other lines one after another. */
    private static String program(List<String> lines) {
        StringBuilder methods = new StringBuilder();
        StringBuilder calls = new StringBuilder();
        List<String> fence = null;
        String kind = "";
        for (int i = 0; i < lines.size(); i++) {
            String line = lines.get(i);
            if (line.startsWith("```") && fence == null) {
                kind = line.substring(3);
                fence = new ArrayList<>();
            } else if (line.equals("```")) {
                put(kind, fence, i, methods, calls);
                fence = null;
            } else if (fence != null) {
                fence.add(line);
            }
        }
        CHECK.due("a block without an end", fence == null ? 0 : 1, 0);
        return "public final class ReadmeCalls {\n" + methods + "public static void run(Check check) {\n" + calls + "}\n}\n";
    }

    private static void put(String kind, List<String> fence, int end, StringBuilder methods, StringBuilder calls) {
        String text = String.join("\n", fence) + "\n";
        if (kind.equals("text")) {
            calls.append("check.due(\"the picture above line " + (end + 1) + "\", Check.picture(x), \"" + text.replace("\n", "\\n") + "\");\n");
        } else if (!kind.equals("java")) {
            CHECK.due("a block of " + kind, 1, 0);
        } else if (text.contains("static ")) {
            methods.append(text);
        } else {
            for (String line : fence) {
                calls.append(row(line)).append("\n");
            }
        }
    }

    /** A line as it is, or, of a call, a look whether its answer is the one that is shown. */
    private static String row(String line) {
        Matcher call = CALL.matcher(line);
        if (!call.lookingAt()) {
            return line;
        }
        SHOWN.add(call.group(1));
        Matcher row = ROW.matcher(line);
        CHECK.due("an answer behind " + line, row.matches() ? 1 : 0, 1);
        if (!row.matches()) {
            return line;
        }
        String answer = Character.isLetter(row.group(2).charAt(0)) ? "LineDiagram." + row.group(2) : row.group(2);
        return "check.due(\"" + row.group(1) + "\", " + row.group(1) + ", " + answer + ");";
    }

    private static Set<String> methods() {
        Set<String> all = new TreeSet<>();
        for (java.lang.reflect.Method method : LineDiagram.class.getDeclaredMethods()) {
            if (java.lang.reflect.Modifier.isPublic(method.getModifiers())) {
                all.add(method.getName());
            }
        }
        return all;
    }

    // ---- what else it says

    private static void tables(List<String> lines) throws Exception {
        Set<String> constants = new TreeSet<>();
        Set<String> tests = new TreeSet<>();
        for (String line : lines) {
            String[] cells = line.split(" *\\| *");
            if (cells.length == 4 && cells[1].matches("[A-Z_]+")) {
                constants.add(cells[1]);
                CHECK.due("the constant " + cells[1], LineDiagram.class.getField(cells[1]).getInt(null), Integer.parseInt(cells[2]));
            } else if (cells.length == 3 && cells[1].endsWith("Test")) {
                tests.add(cells[1]);
            }
        }
        CHECK.due("constants", constants.size(), LineDiagram.class.getFields().length);
        Set<String> files = new TreeSet<>();
        for (String name : new File("src/test/java").list()) {
            if (name.endsWith("Test.java")) {
                files.add(name.replace(".java", ""));
            }
        }
        CHECK.due("the table of tests", String.join("\n", tests), String.join("\n", files));
    }

    private static void numbers(String text) throws Exception {
        String room = RoomTest.room(new LineDiagram());
        CHECK.due("README.md says: " + room, text.contains("(" + room + ")") ? 1 : 0, 1);
        String runs = RandomRunsTest.RUNS + " runs of " + RandomRunsTest.MOST_CALLS + " calls";
        CHECK.due("README.md says: " + runs, text.contains(runs) ? 1 : 0, 1);
    }
}
