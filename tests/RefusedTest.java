import java.util.HashMap;
import java.util.List;
import java.util.Map;

/**
 * The codes of every promise, their order if several apply (UNKNOWN, OUTSIDE, NOT, FULL), and "A failed call changes
 * nothing": each refused call is made in a scene, and then all is looked at, also behind undo, goBack and drift.
 */
public final class RefusedTest {
    private static final String NEW = "";
    // slot 0: int array, 1: tags, 2: long array, 3: a longer Object array, 4: an object, 5: empty; six deeds
    private static final String FIT = Runs.filled(0, 4, 4, 3, 1, 2) + Runs.filled(1, 10, 8, 6, 5, 2)
        + "lay(2, 5, 3); lay(3, 9, 5); lay(4, 12, 0); key(0, 8, 0); key(1, 8, 1); sheet(3); seed(77); write(0, 2); write(1, 9);"
        + "keep(0); weigh(3, 5); take(4, 8); put(0, 1, 0) = 0; settle() = 3; take(5, 9); take(4, -6); told(14) = 6;";
    private static final String HAND_IS_NULL = FIT + "take(9, 0);";
    private static final String HAND_IS_TAG = FIT + "take(8, 3);";
    private static final String UNFIT = FIT + "lay(0, 13, 3); told(2) = NONE;";
    private static final String BARE = Runs.filled(0, 4, 4, 3, 1, 2) + "lay(4, 12, 3); told(2) = NONE;";
    private static final String NO_PLACES = "lay(0, 4, 0); lay(1, 9, 0); key(0, 8, 0); sheet(3); told(2) = 0;";
    // Every entry is right, so that each change of one would show.
    private static final String FULL = FIT + "key(2, 5, 0); key(0, 4, 1) = 4; keep(1); tear();" + "write(2, 2); write(0, 0);".repeat(10)
        + "told(12) = 20; told(13) = NONE;" + "weigh(0, 3); weigh(7, -3);".repeat(9) + "told(14) = 16;";
    private static final String FULL_AND_UNFIT = FULL + "lay(1, 14, 0); told(2) = NONE; told(13) = 0;";

    private static final String[] AFTERWARDS = {"", "undo(1)", "undo(2)", "undo(3)", "undo(6)", "undo(7)", "undo(15)", "undo(16)",
        "goBack(0)", "goBack(1)", "drift(12)", "take(0, 1); undo(2)", "keep(1); drift(12); goBack(1)"};

    private static final Map<String, List<Long>> views = new HashMap<>();

    private RefusedTest() {
    }

    public static void main(String[] args) {
        toldRowAndCell();
        handTagAndKeyAt();
        rankAndCompare();
        belowAndWould();
        layAndTake();
        pick();
        put();
        pourAndWeigh();
        keys();
        sheetSettleAndPass();
        moveAndPart();
        figure();
        dealAndDrift();
        undo();
        write();
        imagesAndSeed();
        questionsChangeNothing();
        Runs.finish();
    }

    /** Each of the calls is made in the scene, has this answer, and changes nothing. */
    private static void refused(String promise, String scene, String... calls) {
        for (String part : calls) {
            for (String call : part.split(";")) {
                for (String afterwards : AFTERWARDS) {
                    RowRanks x = Runs.play(promise, scene, call, afterwards);
                    View.same(promise + ": " + call + ", then " + afterwards, View.ofAll(x), viewOf(scene, afterwards));
                }
            }
        }
    }

    private static List<Long> viewOf(String scene, String afterwards) {
        return views.computeIfAbsent(scene + "/" + afterwards, key -> View.ofAll(Runs.play("a scene", scene, afterwards)));
    }

    private static void toldRowAndCell() {
        for (String scene : new String[] {NEW, FIT, UNFIT, NO_PLACES}) {
            refused("2", scene, "told(-1) = OUTSIDE; told(16) = OUTSIDE; told(2147483647) = OUTSIDE; told(-2147483648) = OUTSIDE");
            refused("3", scene, "row(-1, 0) = UNKNOWN; row(6, 1) = UNKNOWN; row(-2147483648, 0) = UNKNOWN; row(0, -1) = OUTSIDE",
                "row(5, 2) = OUTSIDE; row(6, 2) = UNKNOWN; row(-1, -1) = UNKNOWN; row(2147483647, 2147483647) = UNKNOWN");
            refused("4", scene, "cell(-1, 0, 0) = UNKNOWN; cell(6, 0, 1) = UNKNOWN; cell(6, 0, 2) = UNKNOWN; cell(-1, -1, -1) = UNKNOWN",
                "cell(0, 0, 2) = OUTSIDE; cell(0, 0, -1) = OUTSIDE; cell(0, 99, 2) = OUTSIDE; cell(4, 0, 2) = OUTSIDE",
                "cell(5, 0, 2) = OUTSIDE");
        }
    }

    private static void handTagAndKeyAt() {
        refused("5", FIT, "hand(-1) = OUTSIDE; hand(2) = OUTSIDE; hand(2147483647) = OUTSIDE");
        refused("6", FIT, "tag(-1, 0) = UNKNOWN; tag(8, 1) = UNKNOWN; tag(0, -1) = OUTSIDE; tag(7, 3) = OUTSIDE; tag(8, 3) = UNKNOWN",
            "tag(-1, -1) = UNKNOWN; tag(-2147483648, 0) = UNKNOWN");
        refused("7", NEW, "keyAt(0, 0) = UNKNOWN; keyAt(0, 3) = UNKNOWN; keyAt(-1, 0) = UNKNOWN");
        refused("7", FIT, "keyAt(2, 0) = UNKNOWN; keyAt(-1, 1) = UNKNOWN; keyAt(2, 3) = UNKNOWN; keyAt(-1, -1) = UNKNOWN",
            "keyAt(1, 3) = OUTSIDE; keyAt(0, -1) = OUTSIDE");
        refused("7", FULL, "keyAt(4, 0) = UNKNOWN; keyAt(4, -1) = UNKNOWN; keyAt(3, 3) = OUTSIDE; keyAt(2147483647, 0) = UNKNOWN");
    }

    private static void rankAndCompare() {
        refused("8", FIT, "rank(3, 0) = UNKNOWN; rank(-1, 4) = UNKNOWN; rank(3, 5) = UNKNOWN; rank(-1, -1) = UNKNOWN; rank(2, 5) = OUTSIDE",
            "rank(0, -1) = OUTSIDE; rank(2147483647, 0) = UNKNOWN");
        refused("9", FIT, "compare(3, 0) = UNKNOWN; compare(0, 3) = UNKNOWN; compare(-1, 0) = UNKNOWN; compare(0, -1) = UNKNOWN",
            "compare(3, 3) = UNKNOWN; compare(-1, -1) = UNKNOWN; compare(0, 2147483647) = UNKNOWN");
        for (String scene : new String[] {NEW, BARE, UNFIT, NO_PLACES}) {
            refused("8: no place", scene, "rank(0, 0) = UNKNOWN; rank(0, 4) = UNKNOWN; rank(0, 5) = UNKNOWN; rank(0, -1) = UNKNOWN");
            refused("9: no place", scene, "compare(0, 0) = UNKNOWN; compare(1, 2) = UNKNOWN; compare(-1, -1) = UNKNOWN");
        }
    }

    private static void belowAndWould() {
        refused("10", FIT, "below(-1, 8, 0) = UNKNOWN; below(6, 8, 0) = UNKNOWN; below(6, 9, 0) = UNKNOWN; below(6, 8, 2) = UNKNOWN",
            "below(-1, -1, -1) = UNKNOWN; below(0, -1, 0) = OUTSIDE; below(0, 9, 0) = OUTSIDE; below(0, 8, -1) = OUTSIDE",
            "below(0, 8, 2) = OUTSIDE; below(0, 9, 2) = OUTSIDE");
        refused("10: OUTSIDE before NONE", FIT, "below(5, 9, 0) = OUTSIDE; below(5, 8, 2) = OUTSIDE; below(4, 8, 2) = OUTSIDE",
            "below(1, 4, 2) = OUTSIDE; below(0, 3, -1) = OUTSIDE");
        refused("10: none", FIT, "below(5, 8, 0) = NONE; below(4, 8, 0) = NONE; below(4, 0, 1) = NONE; below(3, 4, 0) = NONE",
            "below(0, 3, 0) = NONE; below(1, 4, 1) = NONE");
        for (String scene : new String[] {NEW, FIT, UNFIT, NO_PLACES}) {
            refused("11", scene, "would(-1, 0) = UNKNOWN; would(6, 0) = UNKNOWN; would(6, 99) = UNKNOWN; would(-1, -1) = UNKNOWN");
        }
        refused("11: none", FIT, "would(5, 0) = NONE; would(4, 0) = NONE; would(1, 0) = NONE; would(0, 3) = NONE; would(0, -1) = NONE",
            "would(3, 3) = NONE; would(3, 4) = NONE; would(3, 2147483647) = NONE");
        refused("11: none", UNFIT, "would(2, 0) = NONE; would(3, 0) = NONE; would(0, 0) = NONE");
    }

    private static void layAndTake() {
        for (String scene : new String[] {NEW, FIT, FULL}) {
            refused("12", scene, "lay(-1, 4, 3) = UNKNOWN; lay(6, 4, 3) = UNKNOWN; lay(6, 15, 3) = UNKNOWN; lay(6, 4, 13) = UNKNOWN",
                "lay(-1, -1, -1) = UNKNOWN; lay(0, -1, 3) = OUTSIDE; lay(0, 15, 3) = OUTSIDE; lay(0, 4, -1) = OUTSIDE",
                "lay(0, 4, 13) = OUTSIDE; lay(0, 12, 13) = OUTSIDE; lay(0, 13, -1) = OUTSIDE; lay(0, 14, 13) = OUTSIDE");
            refused("13", scene, "take(-1, 0) = OUTSIDE; take(10, 0) = OUTSIDE; take(10, 8) = OUTSIDE; take(-1, -1) = OUTSIDE",
                "take(8, -1) = UNKNOWN; take(8, 8) = UNKNOWN; take(8, 4294967301) = UNKNOWN; take(8, -9223372036854775808) = UNKNOWN");
        }
    }

    private static void pick() {
        refused("14", FIT, "pick(-1, 0, 8) = UNKNOWN; pick(6, 0, 8) = UNKNOWN; pick(6, 0, 9) = UNKNOWN; pick(-1, -1, -1) = UNKNOWN",
            "pick(0, 0, -1) = OUTSIDE; pick(0, 0, 9) = OUTSIDE; pick(5, 0, 9) = OUTSIDE; pick(0, 99, -1) = OUTSIDE");
        refused("14: then the hand stays", FIT, "pick(5, 0, 8) = 1; pick(5, -1, 0) = 1; pick(4, 0, 8) = 2; pick(4, -1, 0) = 2",
            "pick(0, 3, 8) = 3; pick(0, -1, 8) = 3; pick(1, 3, 4) = 3; pick(0, 0, 3) = 4; pick(1, 0, 4) = 4; pick(3, 0, 4) = 4",
            "pick(3, 2147483647, 8) = 3; pick(3, -2147483648, 8) = 3");
    }

    private static void put() {
        refused("15", FIT, "put(-1, 0, 0) = UNKNOWN; put(6, 0, 0) = UNKNOWN; put(6, 0, 2) = UNKNOWN; put(0, 0, 2) = OUTSIDE",
            "put(0, 0, -1) = OUTSIDE; put(5, 0, 2) = OUTSIDE");
        refused("15: refused", FIT, "put(5, 0, 0) = 1; put(5, -1, 1) = 1; put(4, 0, 0) = 2; put(4, 12, 1) = 2; put(0, 3, 0) = 3",
            "put(0, -1, 1) = 3; put(1, 3, 0) = 3; put(1, 0, 0) = 4; put(1, 0, 1) = 4; put(3, 0, 1) = 4; put(3, 5, 1) = 3");
        for (String scene : new String[] {HAND_IS_NULL, HAND_IS_TAG}) {
            refused("15: NOT", scene, "put(6, 0, 1) = UNKNOWN; put(-1, 0, 2) = UNKNOWN; put(0, 0, 2) = OUTSIDE; put(0, 0, -1) = OUTSIDE",
                "put(0, 0, 1) = NOT; put(1, 0, 1) = NOT; put(3, 0, 1) = NOT; put(0, 3, 1) = NOT; put(4, 0, 1) = NOT; put(5, 0, 1) = NOT",
                "put(0, 0, 0) = 4; put(1, 3, 0) = 3; put(4, 0, 0) = 2; put(5, 0, 0) = 1");
        }
    }

    private static void pourAndWeigh() {
        refused("16", FIT, "pour(-1, 0, 0, 0, 1) = UNKNOWN; pour(6, 0, 0, 0, 1) = UNKNOWN; pour(0, 0, -1, 0, 1) = UNKNOWN",
            "pour(0, 0, 6, 0, 1) = UNKNOWN; pour(6, 0, 0, 0, 13) = UNKNOWN; pour(0, 0, 6, 0, -1) = UNKNOWN; pour(6, 0, 6, 0, 0) = UNKNOWN",
            "pour(0, 0, 3, 0, 13) = OUTSIDE; pour(0, 0, 3, 0, -1) = OUTSIDE; pour(5, 0, 4, 0, 13) = OUTSIDE",
            "pour(0, -1, 0, 99, 2147483647) = OUTSIDE");
        refused("17", FIT, "weigh(-1, 0) = UNKNOWN; weigh(8, 0) = UNKNOWN; weigh(8, 1001) = UNKNOWN; weigh(-1, -1001) = UNKNOWN",
            "weigh(0, 1001) = OUTSIDE; weigh(7, -1001) = OUTSIDE; weigh(0, 2147483647) = OUTSIDE; weigh(0, -2147483648) = OUTSIDE");
    }

    private static void keys() {
        refused("18", FIT, "key(-1, 8, 0) = UNKNOWN; key(6, 8, 0) = UNKNOWN; key(6, 9, 0) = UNKNOWN; key(6, 8, 2) = UNKNOWN",
            "key(0, -1, 0) = OUTSIDE; key(0, 9, 0) = OUTSIDE; key(0, 8, -1) = OUTSIDE; key(0, 8, 2) = OUTSIDE");
        refused("18: FULL", FULL, "key(6, 8, 0) = UNKNOWN; key(-1, 9, 2) = UNKNOWN; key(0, 9, 0) = OUTSIDE; key(0, 8, 2) = OUTSIDE",
            "key(0, 8, 0) = FULL; key(5, 0, 1) = FULL");
        refused("19", NEW, "unkey() = NOT");
        refused("19", BARE, "unkey() = NOT");
    }

    private static void sheetSettleAndPass() {
        refused("20", FIT, "sheet(-1) = OUTSIDE; sheet(64) = OUTSIDE; sheet(2147483647) = OUTSIDE; sheet(-2147483648) = OUTSIDE");
        for (String scene : new String[] {NEW, BARE, UNFIT, FULL_AND_UNFIT}) {
            refused("21, 22", scene, "settle() = NOT; pass() = NOT");
        }
    }

    private static void moveAndPart() {
        refused("23", FIT, "move(3, 0, 0) = UNKNOWN; move(0, 3, 1) = UNKNOWN; move(-1, 0, 2) = UNKNOWN; move(0, -1, 0) = UNKNOWN",
            "move(3, 0, 3) = UNKNOWN; move(0, -1, -1) = UNKNOWN; move(0, 1, 3) = OUTSIDE; move(1, 1, -1) = OUTSIDE");
        refused("24", FIT, "part(3) = UNKNOWN; part(-1) = UNKNOWN; part(2147483647) = UNKNOWN; part(-2147483648) = UNKNOWN");
        for (String scene : new String[] {NEW, BARE, UNFIT, NO_PLACES}) {
            refused("23: no place", scene, "move(0, 0, 0) = UNKNOWN; move(0, 1, 2) = UNKNOWN; move(0, 0, 3) = UNKNOWN");
            refused("24: no place", scene, "part(0) = UNKNOWN; part(-1) = UNKNOWN");
        }
    }

    private static void figure() {
        refused("25", FIT, "figure(-1, 0) = UNKNOWN; figure(6, 0) = UNKNOWN; figure(6, 21) = UNKNOWN; figure(-1, -1) = UNKNOWN",
            "figure(0, 21) = OUTSIDE; figure(0, -1) = OUTSIDE; figure(5, 21) = OUTSIDE; figure(1, -1) = OUTSIDE",
            "figure(1, 0) = NOT; figure(3, 0) = NOT; figure(4, 0) = NOT; figure(5, 0) = NOT");
        refused("25: not fit", UNFIT, "figure(6, 0) = UNKNOWN; figure(6, 21) = UNKNOWN; figure(2, 21) = OUTSIDE; figure(2, 0) = NOT");
        refused("25: not fit", BARE, "figure(0, 0) = NOT; figure(0, 21) = OUTSIDE; figure(4, 0) = NOT");
    }

    private static void dealAndDrift() {
        refused("26", FIT, "deal(0) = OUTSIDE; deal(13) = OUTSIDE; deal(-1) = OUTSIDE; deal(2147483647) = OUTSIDE");
        for (String scene : new String[] {NEW, BARE, UNFIT}) {
            refused("26: not fit", scene, "deal(0) = OUTSIDE; deal(13) = OUTSIDE; deal(1) = NOT; deal(12) = NOT");
        }
        refused("27", FIT, "drift(0) = OUTSIDE; drift(13) = OUTSIDE; drift(-1) = OUTSIDE; drift(-2147483648) = OUTSIDE");
        refused("27", FULL, "drift(0) = OUTSIDE; drift(13) = OUTSIDE");
    }

    private static void undo() {
        refused("28", NEW, "undo(0) = OUTSIDE; undo(17) = OUTSIDE; undo(-1) = OUTSIDE; undo(1) = NOT; undo(16) = NOT");
        refused("28", FIT, "undo(0) = OUTSIDE; undo(17) = OUTSIDE; undo(2147483647) = OUTSIDE; undo(-2147483648) = OUTSIDE",
            "undo(7) = NOT; undo(16) = NOT");
        refused("28", FULL, "undo(0) = OUTSIDE; undo(17) = OUTSIDE");
    }

    private static void write() {
        refused("29", FIT, "write(3, 0) = UNKNOWN; write(-1, 0) = UNKNOWN; write(2147483647, 2147483647) = UNKNOWN");
        refused("29: FULL", FULL, "write(3, 0) = UNKNOWN; write(-1, 0) = UNKNOWN; write(0, 0) = FULL; write(2, -9) = FULL");
        for (String scene : new String[] {NEW, BARE, UNFIT, NO_PLACES, FULL_AND_UNFIT}) {
            refused("29: no place", scene, "write(0, 0) = UNKNOWN; write(-1, -1) = UNKNOWN");
        }
    }

    private static void imagesAndSeed() {
        for (String scene : new String[] {NEW, FIT, FULL}) {
            refused("31", scene, "seed(-1) = OUTSIDE; seed(-2147483648) = OUTSIDE");
            refused("32", scene, "keep(-1) = UNKNOWN; keep(2) = UNKNOWN; keep(2147483647) = UNKNOWN; keep(-2147483648) = UNKNOWN");
            refused("33", scene, "goBack(-1) = UNKNOWN; goBack(2) = UNKNOWN; goBack(2147483647) = UNKNOWN");
        }
        refused("33: nothing kept", NEW, "goBack(0) = NOT; goBack(1) = NOT");
        refused("33: nothing kept", FIT, "goBack(1) = NOT");
    }

    /** What only asks changes nothing; would, too, though it looks at a cell that it puts. */
    private static void questionsChangeNothing() {
        for (String scene : new String[] {NEW, FIT, HAND_IS_TAG, HAND_IS_NULL, UNFIT, NO_PLACES, FULL}) {
            StringBuilder asked = new StringBuilder("hand(0); hand(1)");
            for (int what = 0; what <= 15; what++) {
                asked.append("; told(" + what + ")");
            }
            for (int slot = 0; slot < 6; slot++) {
                asked.append("; row(" + slot + ", 0); row(" + slot + ", 1); cell(" + slot + ", 1, 0); cell(" + slot + ", 9, 1)");
                asked.append("; below(" + slot + ", 8, 0); below(" + slot + ", 4, 1); would(" + slot + ", 0); would(" + slot + ", 2)");
                asked.append("; tag(" + slot + ", 2); keyAt(" + slot + ", 1); rank(" + slot + ", 2); compare(" + slot + ", 1)");
            }
            refused("it only asks", scene, asked.toString());
        }
    }
}
