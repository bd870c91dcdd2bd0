import java.nio.file.Files;
import java.nio.file.Path;
import java.util.List;
import java.util.regex.Matcher;
import java.util.regex.Pattern;

/** Some rules of ../shared/LANGUAGE.md that can be seen from the text of the program; its argument is that file. */
public final class LanguageTest {
    private static final Check CHECK = new Check("LanguageTest");
    private static final String[] FORBIDDEN = {"\\bcatch\\b", "\\bthrow\\b", "\\btry\\b", "\\bfinally\\b", "\\bassert\\b",
        "\\bsynchronized\\b", "->", "::", "\\w+Exact\\b", "\\bSystem\\.(?!arraycopy\\b)", "\\bMath\\.(?!(abs|max|min)\\b)",
        "\\bInteger\\.(?!bitCount\\b)", "\\bArrays\\.(?!fill\\b)", "\\bimport (?!java\\.util\\.Arrays;)", "\\bpackage\\b",
        "\"\\s*\\+", "\\+\\s*\"", "@\\w+", "\\bpublic (?!static final int [A-Z_]+ = -\\d;|(int|float|double) \\w+\\(|LineDiagram\\(\\)|final class LineDiagram )",
        "\\bprotected\\b", "\\bvar\\b", "\\brecord\\b", "\\bwhile \\(true\\)", "\\bfor \\(;;"};

    public static void main(String[] args) throws Exception {
        Path file = Path.of(args.length > 0 ? args[0] : "src/main/java/LineDiagram.java");
        List<String> lines = Files.readAllLines(file);
        for (int i = 0; i < lines.size(); i++) {
            String code = lines.get(i).replaceAll("^\\s*(/\\*\\*|\\*|//).*", "");
            for (String word : FORBIDDEN) {
                Matcher found = Pattern.compile(word).matcher(code);
                CHECK.due("line " + (i + 1) + " has " + word + ": " + code, found.find() ? 1 : 0, 0);
            }
            CHECK.due("line " + (i + 1) + " is ASCII", code.matches("\\p{ASCII}*") ? 1 : 0, 1);
        }
        methods(lines);
        int classes = 0;
        for (String line : lines) {
            classes += line.matches("\\s*(private static|public) final class .*") ? 1 : 0;
        }
        CHECK.due("classes up to 12", classes <= 12 ? 1 : 0, 1);
        CHECK.end();
    }

    /** Methods have at most sixty lines and seven parameters. */
    private static void methods(List<String> lines) {
        int begin = -1;
        String end = "";
        for (int i = 0; i < lines.size(); i++) {
            Matcher head = Pattern.compile("^( +)(?! )(?:[\\w\\[\\]]+ )*\\w+\\((.*)\\) \\{$").matcher(lines.get(i));
            if (head.find() && !lines.get(i).contains("else ") && begin < 0) {
                begin = i;
                end = head.group(1) + "}";
                CHECK.due("parameters of " + lines.get(i), head.group(2).split(",").length <= 7 ? 1 : 0, 1);
            } else if (begin >= 0 && lines.get(i).equals(end)) {
                CHECK.due("lines of " + lines.get(begin), i - begin < 60 ? 1 : 0, 1);
                begin = -1;
            }
        }
        CHECK.due("a method without an end", begin, -1);
    }
}
