import java.lang.reflect.InvocationTargetException;
import java.lang.reflect.Method;
import java.util.Arrays;

/** Runs of calls drawn by a fixed rule, played on the class and on the model, which must agree on every answer. */
public final class ModelTest {
    private static final String[] DEEDS = {"lay", "lay", "take", "take", "pick", "put", "put", "put", "pour", "weigh",
        "key", "unkey", "sheet", "settle", "pass", "move", "part", "figure", "deal", "drift", "undo", "write", "tear",
        "seed", "keep", "goBack"};
    private static final String[] QUESTIONS = {"told", "row", "cell", "hand", "tag", "keyAt", "rank", "compare",
        "below", "would"};
    private static final String[] CALM_DEEDS = {"take", "put", "pour", "weigh", "settle", "settle", "pass", "pass", "move",
        "move", "move", "part", "figure", "deal", "drift", "undo", "undo", "write", "seed", "goBack"};
    private static final String[] ASKED_OFTEN = {"told", "told", "told", "rank", "rank", "compare", "cell", "cell", "below",
        "would", "would"};
    private static final String WIDENS = "0 1345678 24568 345678 45678 5678 678 78 8 8 8 8";
    private static final long[] LONGS = {0, 1, -1, 2, 127, 128, -128, -129, 255, 65535, 65536, 32768, -32769,
        16777217, 16777216, 2147483647L, 2147483648L, -2147483649L, 9007199254740993L, 9007199254740992L,
        Long.MAX_VALUE, Long.MIN_VALUE, Long.MAX_VALUE - 600, Long.MIN_VALUE + 1, 9223371487098961920L};

    private static long chance = 20261119;

    private static int draw(int m) {
        chance = chance * 6364136223846793005L + 1442695040888963407L;
        return (int) ((chance >>> 33) % m);
    }

    public static void main(String[] args) {
        for (int run = 0; run < 200; run++) {
            new ModelTest(run).playWildRun();
        }
        for (int run = 200; run < 700; run++) {
            new ModelTest(run).playCalmRun();
        }
        Runs.finish();
    }

    private final int run;
    private final RowRanks x = new RowRanks();
    private final Model model = new Model();
    private final StringBuilder story = new StringBuilder();
    private final int length = draw(3) == 0 ? draw(13) : 3 + draw(10);
    private final boolean isWild = draw(4) == 0;
    private int calls = 0;
    private boolean isWrong = false;

    private ModelTest(int run) {
        this.run = run;
    }

    private void playWildRun() {
        while (calls < 512 && !isWrong) {
            playDrawn(draw(2) == 0 ? DEEDS[draw(DEEDS.length)] : QUESTIONS[draw(QUESTIONS.length)]);
        }
    }

    /** Three times a workbench that is fit is set up, and calls follow that leave it fit mostly. */
    private void playCalmRun() {
        for (int scene = 0; scene < 3; scene++) {
            setUp();
            for (int call = 0; call < 75 && !isWrong; call++) {
                playDrawn(draw(3) == 0 ? CALM_DEEDS[draw(CALM_DEEDS.length)] : ASKED_OFTEN[draw(ASKED_OFTEN.length)]);
            }
        }
        while (calls < 512 && !isWrong) {
            playDrawn(draw(2) == 0 ? DEEDS[draw(DEEDS.length)] : QUESTIONS[draw(QUESTIONS.length)]);
        }
    }

    private void setUp() {
        for (int k = model.told(0); k > 0; k--) {
            play("unkey");
        }
        int range = 2 + draw(6);
        int[] kinds = new int[3];
        for (int slot = 0; slot < 3; slot++) {
            kinds[slot] = draw(12);
            play("lay", slot, kinds[slot], length);
            for (int i = 0; i < length; i++) {
                int sort = sortFor(kinds[slot]);
                play("take", sort, sort == 8 ? 4 + draw(4) : draw(9) == 0 ? LONGS[draw(LONGS.length)] : draw(range) - 2L);
                play("put", slot, i, 0);
            }
        }
        for (int keys = draw(5); keys > 0; keys--) {
            int slot = draw(3);
            String bys = "8" + WIDENS.split(" ")[kinds[slot]];
            play("key", slot, bys.charAt(draw(bys.length())) - '0', draw(2));
        }
        play("sheet", draw(8));
        play("keep", draw(2));
    }

    private static int sortFor(int kind) {
        switch (kind) {
            case 8: return draw(4) == 0 ? 9 : 4;
            case 9: return 3 + draw(7);
            case 10: case 11: return draw(5) == 0 ? 9 : 8;
            default: return kind;
        }
    }

    private void playDrawn(String name) {
        Object[] arguments = new Object[methodOf(RowRanks.class, name).getParameterCount()];
        for (int a = 0; a < arguments.length; a++) {
            arguments[a] = argument(name, a, length, isWild);
        }
        play(name, arguments);
    }

    private void play(String name, Object... numbers) {
        Method method = methodOf(RowRanks.class, name);
        Object[] arguments = new Object[numbers.length];
        for (int a = 0; a < numbers.length; a++) {
            long value = ((Number) numbers[a]).longValue();
            if (method.getParameterTypes()[a] == int.class) {
                arguments[a] = (int) value;
            } else {
                arguments[a] = value;
            }
        }
        long got = answer(method, x, arguments);
        long want = answer(methodOf(Model.class, name), model, arguments);
        story.append(name).append(Arrays.toString(arguments)).append(" = ").append(want).append("; ");
        calls++;
        Runs.due("run " + run + ", a drawn call", got, want);
        if (got != want && !isWrong) {
            isWrong = true;
            Runs.fault("run " + run + ": " + story);
        }
    }

    private static long argument(String name, int index, int length, boolean isWild) {
        if (draw(isWild ? 12 : 60) == 0) {
            int[] edges = {-1, 64, 1001, -1001, 13, 6, 16, 17, Integer.MIN_VALUE, Integer.MAX_VALUE, 2, 3, 5, 9, 10};
            return edges[draw(edges.length)];
        }
        String place = name + " " + index;
        switch (place) {
            case "lay 0": case "row 0": case "cell 0": case "pick 0": case "put 0": case "pour 0": case "pour 2":
            case "key 0": case "below 0": case "would 0": case "figure 0":
                return draw(draw(3) == 0 ? 6 : 3);
            case "lay 1": return draw(4) == 0 ? 9 + draw(6) : draw(12);
            case "lay 2": return draw(8) == 0 ? draw(13) : length;
            case "take 0": return draw(3) == 0 ? 8 : draw(10);
            case "take 1": return takenLong();
            case "told 0": return draw(16);
            case "tag 0": case "weigh 0": return draw(8);
            case "weigh 1": return draw(2) == 0 ? draw(5) - 2 : draw(2001) - 1000;
            case "sheet 0": return draw(3) == 0 ? draw(64) : draw(8);
            case "figure 1": return draw(2) == 0 ? draw(3) : draw(21);
            case "key 1": case "pick 2": case "below 1": return draw(2) == 0 ? 8 : draw(9);
            case "deal 0": return 1 + draw(12);
            case "drift 0": return 1 + draw(draw(3) == 0 ? 12 : 2);
            case "undo 0": return 1 + draw(draw(3) == 0 ? 16 : 3);
            case "seed 0": return draw(2) == 0 ? draw(1000) : Integer.MAX_VALUE - draw(3);
            case "keep 0": case "goBack 0": return draw(2);
            case "row 1": case "cell 2": case "hand 0": case "put 2": case "key 2": case "below 2": return draw(2);
            case "tag 1": case "keyAt 1": case "move 2": return draw(3);
            case "keyAt 0": return draw(5);
            case "rank 1": return draw(5);
            case "pour 4": return draw(13);
            default: return draw(length + 1);
        }
    }

    private static long takenLong() {
        int way = draw(3);
        if (way == 0) {
            return LONGS[draw(LONGS.length)];
        }
        return way == 1 ? draw(8) : draw(400) - 200;
    }

    private static Method methodOf(Class<?> type, String name) {
        for (Method method : type.getDeclaredMethods()) {
            if (method.getName().equals(name) && !java.lang.reflect.Modifier.isPrivate(method.getModifiers())) {
                return method;
            }
        }
        throw new IllegalArgumentException("no such method: " + name);
    }

    private static long answer(Method method, Object x, Object[] arguments) {
        try {
            return ((Number) method.invoke(x, arguments)).longValue();
        } catch (InvocationTargetException thrown) {
            throw new IllegalStateException(method + Arrays.toString(arguments), thrown.getCause());
        } catch (IllegalAccessException hidden) {
            throw new IllegalStateException(hidden);
        }
    }
}
