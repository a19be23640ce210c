import java.io.IOException;
import java.lang.reflect.Method;
import java.lang.reflect.Modifier;
import java.nio.file.Files;
import java.nio.file.Path;
import java.util.Map;
import java.util.TreeMap;
import java.util.TreeSet;
import java.util.regex.Matcher;
import java.util.regex.Pattern;

/** What README.md tells: the run in it is answered so, and its tables have every call and code as the document has. */
public final class ReadmeTest {
    private static final Pattern RUN_LINE = Pattern.compile("(?m)^x\\.(\\w+\\([^)]*\\)); *// (-?\\w+): ");
    private static final Pattern CALL_ROW = Pattern.compile("(?m)^\\| `(\\w+)\\(([^)]*)\\)` \\| ([^|]+) \\|([^|]*)\\|$");
    private static final Pattern CODE_ROW = Pattern.compile("(?m)^\\| `(\\w+)` \\| (-\\d+) \\| [^|]+ \\|$");
    private static final Pattern PROMISE = Pattern.compile("(?s)`(?:int|long) (\\w+)\\([^)]*\\)`\n(.*?)(?=\n## |$)");
    private static final Pattern CODE = Pattern.compile("\\b(NONE|UNKNOWN|OUTSIDE|NOT|FULL)\\b");

    private ReadmeTest() {
    }

    public static void main(String[] args) throws IOException {
        String readme = Files.readString(Path.of("README.md"));
        playTheRun(readme);
        everyCall(readme);
        Path document = Path.of("../shared/DOC.md");
        if (Files.exists(document)) {
            codesOfEachCall(readme, Files.readString(document));
        }
        errorCodes(readme);
        everyTest(readme);
        Runs.finish();
    }

    private static void playTheRun(String readme) {
        RowRanks x = new RowRanks();
        int lines = 0;
        Matcher line = RUN_LINE.matcher(readme);
        while (line.find()) {
            lines++;
            Runs.goOn(x, "README", line.group(1) + " = " + line.group(2));
        }
        Runs.due("lines of the run", lines, readme.split("(?m)^x\\.", -1).length - 1);
        Runs.due("there is a run", lines > 0 ? 1 : 0, 1);
    }

    private static void everyCall(String readme) {
        Map<String, Integer> parameters = new TreeMap<>();
        Matcher row = CALL_ROW.matcher(readme);
        while (row.find()) {
            parameters.put(row.group(1), row.group(2).isEmpty() ? 0 : row.group(2).split(",").length);
        }
        for (Method method : RowRanks.class.getDeclaredMethods()) {
            if (Modifier.isPublic(method.getModifiers())) {
                Integer told = parameters.remove(method.getName());
                Runs.due("parameters of " + method.getName(), told == null ? -1 : told, method.getParameterCount());
            }
        }
        Runs.due("calls that there are not", parameters.size(), 0);
    }

    /** The codes that the document names behind "Returns" are those of the table, and no others. */
    private static void codesOfEachCall(String readme, String document) {
        Map<String, String> told = new TreeMap<>();
        Matcher row = CALL_ROW.matcher(readme);
        while (row.find()) {
            told.put(row.group(1), codesIn(row.group(4)).toString());
        }
        Matcher promise = PROMISE.matcher(document);
        int promises = 0;
        while (promise.find()) {
            promises++;
            String answers = promise.group(2);
            String due = codesIn(answers.substring(answers.lastIndexOf("Returns "))).toString();
            if (!due.equals(told.get(promise.group(1)))) {
                Runs.fault("README tells " + told.get(promise.group(1)) + " for " + promise.group(1) + ", the document " + due);
            }
        }
        Runs.due("promises with answers", promises, told.size());
    }

    private static TreeSet<String> codesIn(String text) {
        TreeSet<String> codes = new TreeSet<>();
        Matcher code = CODE.matcher(text);
        while (code.find()) {
            codes.add(code.group());
        }
        return codes;
    }

    private static void errorCodes(String readme) {
        Map<String, Long> codes = new TreeMap<>();
        Matcher row = CODE_ROW.matcher(readme);
        while (row.find()) {
            codes.put(row.group(1), Long.valueOf(row.group(2)));
        }
        Map<String, Long> due = Map.of("UNKNOWN", (long) RowRanks.UNKNOWN, "OUTSIDE", (long) RowRanks.OUTSIDE,
            "NOT", (long) RowRanks.NOT, "FULL", (long) RowRanks.FULL);
        Runs.due("the error codes", codes.equals(new TreeMap<>(due)) ? 1 : 0, 1);
        Runs.due("NONE is told", readme.contains("`NONE` (" + RowRanks.NONE + ")") ? 1 : 0, 1);
    }

    private static void everyTest(String readme) throws IOException {
        try (var files = Files.list(Path.of("tests"))) {
            for (Path file : files.toList()) {
                String name = file.getFileName().toString().replace(".java", "");
                if (name.endsWith("Test")) {
                    Runs.due("README names " + name, readme.contains("`" + name + "`") ? 1 : 0, 1);
                }
            }
        }
    }
}
