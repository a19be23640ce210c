import java.lang.reflect.InvocationTargetException;
import java.lang.reflect.Method;
import java.util.Map;
import java.util.regex.Matcher;
import java.util.regex.Pattern;

/**
 * Plays runs of calls that are written as in the document: "lay(0, 4, 3) = 14; told(2) = NONE". A call without an
 * answer behind it is not looked at.
 */
final class Runs {
    private static final Pattern CALL = Pattern.compile("(\\w+)\\(([^)]*)\\)(?:\\s*=\\s*(-?\\w+))?");
    private static final Map<String, Long> ERRORS = Map.of("NONE", -1L, "UNKNOWN", -1000000001L,
        "OUTSIDE", -1000000002L, "NOT", -1000000003L, "FULL", -1000000004L);

    private static final long LONGEST_TEST = 300_000;

    private static int wrong = 0;
    private static int calls = 0;

    static {
        // A call that never ends must be a fault, too.
        Thread watch = new Thread(Runs::failLater);
        watch.setDaemon(true);
        watch.start();
    }

    private Runs() {
    }

    /** Plays a run on a new object, which is given back for further runs. */
    static RowRanks play(String name, String... parts) {
        return goOn(new RowRanks(), name, parts);
    }

    static RowRanks goOn(RowRanks x, String name, String... parts) {
        for (String part : parts) {
            for (String call : part.split(";")) {
                if (!call.isBlank()) {
                    playCall(x, name, call.trim());
                }
            }
        }
        return x;
    }

    private static void playCall(RowRanks x, String name, String call) {
        Matcher matcher = CALL.matcher(call);
        if (!matcher.matches()) {
            throw new IllegalArgumentException("not a call with its answer: " + call);
        }
        long got = answer(x, matcher.group(1), matcher.group(2));
        String wanted = matcher.group(3);
        if (wanted == null) {
            return;
        }
        long want = ERRORS.containsKey(wanted) ? ERRORS.get(wanted) : Long.parseLong(wanted);
        due(name + ": " + call, got, want);
    }

    /** The calls that lay an array and put these values of a sort into its cells. */
    static String filled(int slot, int kind, int sort, long... values) {
        StringBuilder calls = new StringBuilder("lay(" + slot + ", " + kind + ", " + values.length + ");");
        for (int i = 0; i < values.length; i++) {
            calls.append("take(" + sort + ", " + values[i] + "); put(" + slot + ", " + i + ", 0) = 0;");
        }
        return calls.toString();
    }

    /** The calls that find these numbers in the cells of a slot, and no cell more. */
    static String holds(int slot, long... values) {
        StringBuilder calls = new StringBuilder("row(" + slot + ", 1) = " + values.length + ";");
        for (int i = 0; i < values.length; i++) {
            calls.append("cell(" + slot + ", " + i + ", 1) = " + values[i] + ";");
        }
        return calls.toString();
    }

    static void due(String call, long got, long want) {
        calls++;
        if (got != want) {
            wrong++;
            System.out.println(call + " was answered by " + got + ", due is " + want);
        }
    }

    static void fault(String text) {
        wrong++;
        System.out.println(text);
    }

    private static long answer(RowRanks x, String name, String arguments) {
        String[] texts = arguments.isBlank() ? new String[0] : arguments.split(",");
        for (Method method : RowRanks.class.getMethods()) {
            if (method.getName().equals(name) && method.getParameterCount() == texts.length) {
                return invoke(x, method, texts);
            }
        }
        throw new IllegalArgumentException("no such method: " + name);
    }

    private static long invoke(Object x, Method method, String[] texts) {
        Object[] values = new Object[texts.length];
        for (int a = 0; a < texts.length; a++) {
            boolean isLong = method.getParameterTypes()[a] == long.class;
            String text = texts[a].trim().replace("L", "");
            if (isLong) {
                values[a] = Long.parseLong(text);
            } else {
                values[a] = Integer.parseInt(text);
            }
        }
        try {
            return ((Number) method.invoke(x, values)).longValue();
        } catch (InvocationTargetException thrown) {
            throw new IllegalStateException(method.getName() + " threw", thrown.getCause());
        } catch (IllegalAccessException hidden) {
            throw new IllegalStateException(hidden);
        }
    }

    private static void failLater() {
        try {
            Thread.sleep(LONGEST_TEST);
        } catch (InterruptedException stopped) {
            return;
        }
        System.out.println("a call does not end");
        Runtime.getRuntime().halt(1);
    }

    static void finish() {
        System.out.println(wrong == 0 ? calls + " answers are as due" : wrong + " of " + calls + " are not as due");
        System.exit(wrong == 0 ? 0 : 1);
    }
}
