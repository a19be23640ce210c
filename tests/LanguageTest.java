import java.io.IOException;
import java.nio.file.Files;
import java.nio.file.Path;
import java.util.ArrayList;
import java.util.List;
import java.util.regex.Matcher;
import java.util.regex.Pattern;

/** Looks over the source of the class for what ../shared/LANGUAGE.md rules out, as far as its words show it. */
public final class LanguageTest {
    private static final Path SOURCE = Path.of("src/main/java/RowRanks.java");
    private static final String[] RULED_OUT = {"\\bthrow\\b", "\\btry\\b", "\\bcatch\\b", "\\bfinally\\b", "\\bsynchronized\\b",
        "\\bassert\\b", "\\bimport\\b", "\\bpackage\\b", "->", "::", "\\bNaN\\b", "Exact\\b", "\\bvar\\b", "\\bObject\\b",
        "\\bThread\\b", "System\\.(?!arraycopy)", "\\bprotected\\b", "\\bMath\\.(?!min|max|floorMod)",
        "\\bInteger\\.(?!compare|bitCount)", "\\bLong\\.(?!compare)", "static \\{", "\\bvolatile\\b", "\\bnative\\b",
        "\\b(equals|hashCode|toString|finalize)\\b", "class (?!RowRanks)\\w+ extends", "\\bstatic (?!final)(?!\\w+(\\[\\])? \\w+\\()"};

    private LanguageTest() {
    }

    public static void main(String[] args) throws IOException {
        List<String> lines = withoutComments(Files.readAllLines(SOURCE));
        wordsRuledOut(lines);
        classes(lines);
        methods(lines);
        Runs.finish();
    }

    private static List<String> withoutComments(List<String> lines) {
        List<String> code = new ArrayList<>();
        for (String line : lines) {
            String start = line.trim();
            boolean isComment = start.startsWith("//") || start.startsWith("/*") || start.startsWith("*");
            code.add(isComment ? "" : line);
        }
        return code;
    }

    private static void wordsRuledOut(List<String> lines) {
        for (String ruledOut : RULED_OUT) {
            Pattern pattern = Pattern.compile(ruledOut);
            for (int n = 0; n < lines.size(); n++) {
                Runs.due("line " + (n + 1) + " has " + ruledOut, pattern.matcher(lines.get(n)).find() ? 1 : 0, 0);
            }
        }
    }

    private static void classes(List<String> lines) {
        int count = 0;
        for (String line : lines) {
            if (Pattern.compile("\\bclass \\w+").matcher(line).find()) {
                count++;
                boolean isFine = line.startsWith("public final class RowRanks")
                    || line.startsWith("    private static final class ");
                Runs.due(line, isFine ? 1 : 0, 1);
            }
        }
        Runs.due("at most 12 classes", Math.max(count, 12), 12);
    }

    private static void methods(List<String> lines) {
        Pattern head = Pattern.compile("^(    |        )(?:(?:public|private|static) )*\\w+(?:\\[\\])? ?(\\w*)\\(([^)]*)\\) \\{$");
        for (int n = 0; n < lines.size(); n++) {
            Matcher matcher = head.matcher(lines.get(n));
            if (matcher.find() && !lines.get(n).contains(" new ")) {
                int end = n;
                while (!lines.get(end).equals(matcher.group(1) + "}")) {
                    end++;
                }
                Runs.due(matcher.group(2) + " has at most 60 lines", Math.max(end - n + 1, 60), 60);
                Runs.due(matcher.group(2) + " has at most 7 parameters", Math.max(matcher.group(3).split(",").length, 7), 7);
            }
        }
    }
}
