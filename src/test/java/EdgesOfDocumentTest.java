import java.lang.reflect.Method;
import java.nio.file.Files;
import java.nio.file.Path;
import java.util.ArrayList;
import java.util.LinkedHashMap;
import java.util.List;
import java.util.Map;
import java.util.regex.Matcher;
import java.util.regex.Pattern;

/**
 * Holds the tests of edges against the document itself: the words that each says it tests stand where
 * it says, and no words that name an edge are without a test. Its argument is the document.
 */
public final class EdgesOfDocumentTest {
    private static final Check CHECK = new Check("EdgesOfDocumentTest");
    private static final Class<?>[] TESTS = {EdgesOfTermsTest.class, EdgesOfSetupTest.class, EdgesOfOperationsTest.class,
        EdgesOfLinesTest.class, EdgesOfLabelsTest.class, EdgesOfTextsTest.class};
    /** What stands around the terms and the promises and names edges too. */
    private static final List<String> AROUND = List.of("What it is", "Not promised");
    /** What an edge is told by. */
    private static final Pattern EDGE = Pattern.compile("[A-Z_]{3,}(?= if| for| without|;|,|\\.|\\))|\\d+ to \\d+|\\d+ to the|0 or 1|from 0\\b|up to \\d"
        + "|at most|never|greater|without|empty|exceed|nothing is|of several|\\bfirst\\b|(?<!at )\\bonce\\b|512|\\bless\\b|\\bcut\\b|already|latest|too early|out of range|any other|as far as|in place of");

    public static void main(String[] args) throws Exception {
        Path file = Path.of(args.length > 0 ? args[0] : "../shared/DOC.md");
        if (!Files.exists(file)) {
            System.out.println("EdgesOfDocumentTest: there is no " + file + " to hold the tests against");
            return;
        }
        Map<String, String> sections = sections(Files.readString(file));
        Map<String, List<String>> tested = tested();
        for (String in : tested.keySet()) {
            CHECK.due("section " + in, sections.containsKey(in) ? 1 : 0, 1);
        }
        for (int i = 1; i <= 48; i++) {
            CHECK.due("tests of promise " + i, tested.containsKey("Promise " + i) ? 1 : 0, 1);
        }
        for (String in : sections.keySet()) {
            section(in, sections.get(in), tested.getOrDefault(in, List.of()));
        }
        CHECK.end();
    }

    /** The text of each section of the terms, of each promise and of what stands around them. */
    private static Map<String, String> sections(String text) {
        Map<String, String> all = new LinkedHashMap<>();
        String in = "";
        for (String line : text.split("\n")) {
            Matcher promise = Pattern.compile("## (Promise \\d+):.*").matcher(line);
            Matcher term = Pattern.compile("(\\d)\\. .*").matcher(line);
            if (promise.matches()) {
                in = promise.group(1);
            } else if (line.equals("## Terms")) {
                in = "Terms";
            } else if (line.startsWith("## ")) {
                in = AROUND.contains(line.substring(3)) ? line.substring(3) : "";
            } else if (in.startsWith("Terms") && term.matches()) {
                in = "Terms " + term.group(1);
            } else if (!in.isEmpty() && !in.equals("Terms")) {
                all.merge(in, line.replaceFirst("^- ", ""), (a, b) -> a + "\n" + b);
            }
        }
        return all;
    }

    private static Map<String, List<String>> tested() {
        Map<String, List<String>> all = new LinkedHashMap<>();
        for (Class<?> test : TESTS) {
            for (Method method : test.getDeclaredMethods()) {
                Says says = method.getAnnotation(Says.class);
                if (says != null) {
                    all.computeIfAbsent(says.in(), in -> new ArrayList<>()).add(says.words());
                }
            }
        }
        return all;
    }

    private static void section(String in, String text, List<String> tested) {
        boolean[] covered = new boolean[text.length()];
        for (String words : tested) {
            CHECK.due(in + " has the words \"" + words + "\"", text.contains(words) ? 1 : 0, 1);
            for (int at = text.indexOf(words); at >= 0; at = text.indexOf(words, at + 1)) {
                java.util.Arrays.fill(covered, at, at + words.length(), true);
            }
        }
        Matcher edge = EDGE.matcher(text);
        while (edge.find()) {
            String around = text.substring(Math.max(0, edge.start() - 30), Math.min(text.length(), edge.end() + 30));
            CHECK.due(in + ": a test of \"" + edge.group() + "\" in \"" + around + "\"", covered[edge.start()] ? 1 : 0, 1);
        }
    }
}
