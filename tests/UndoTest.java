import java.util.ArrayList;
import java.util.Arrays;
import java.util.Collections;
import java.util.List;

/** Promise 28: undo, after each of the deeds. */
public final class UndoTest {
    private static final String SCENE = Runs.filled(0, 4, 4, 3, 1, 2) + Runs.filled(1, 10, 8, 6, 5, 2)
        + "key(0, 8, 0) = 1; sheet(3) = 0; keep(0) = 1;";
    private static final String SCENE_STANDS = Runs.holds(0, 3, 1, 2) + Runs.holds(1, 6, 5, 2)
        + "hand(0) = 8; hand(1) = 2; told(0) = 1; keyAt(0, 0) = 0; keyAt(0, 1) = 8; keyAt(0, 2) = 0; told(1) = 3; tag(5, 0) = 2;"
        + "row(0, 0) = 4; row(1, 0) = 10; row(2, 0) = 14;";
    private static final String[] DEEDS = {"lay(0, 9, 5) = 4", "lay(2, 3, 4) = 14", "lay(1, 14, 0) = 10", "take(9, 0) = 8",
        "pick(0, 1, 7) = 0", "put(1, 0, 0) = 0", "pour(0, 0, 0, 1, 2) = 2", "weigh(5, 9) = 2", "key(1, 8, 1) = 2", "unkey() = 0",
        "sheet(1) = 3", "settle() = 3", "pass() = 2", "move(0, 2, 0) = 1", "move(0, 2, 1) = 1", "move(0, 1, 2) = 1",
        "part(2) = 101", "figure(0, 0) = 3", "deal(2) = 2", "drift(1)"};

    private static final String[] BIG_DEEDS = {"lay(5, 9, 12) = 10", "lay(4, 13, 0) = 5", "lay(3, 14, 12) = 9", "take(8, 7) = 2",
        "pick(2, 11, 5) = 0", "pick(5, 0, 8) = 0", "put(4, 11, 0) = 0", "put(3, 0, 0) = 0", "put(4, 5, 1) = 0", "pour(0, 0, 4, 0, 12) = 12",
        "pour(5, 0, 0, 0, 3) = 0", "pour(5, 3, 5, 0, 9) = 9", "weigh(7, 0) = -110", "weigh(0, -1000) = 100", "unkey() = 3",
        "sheet(32) = 63", "settle()", "pass()", "move(0, 11, 0) = 1", "move(11, 0, 1) = 1", "move(2, 9, 2) = 1", "part(6)",
        "figure(4, 1)", "deal(5)", "drift(1)"};

    private UndoTest() {
    }

    public static void main(String[] args) {
        eachDeed();
        severalDeeds();
        latestSixteen();
        errors();
        whatIsNotUndone();
        whatClears();
        eachDeedOfABigScene();
        eachNumberOfSteps();
        eachTimeOfDrift();
        Runs.finish();
    }

    private static void eachDeed() {
        for (String deed : DEEDS) {
            Runs.play("28: " + deed, SCENE, deed, "told(14) = 1; undo(1) = 0", SCENE_STANDS);
        }
    }

    private static void severalDeeds() {
        for (String first : DEEDS) {
            for (String second : DEEDS) {
                String call = second.split("=")[0];
                Runs.play("28: " + first + ", " + call, SCENE, first, "undo(1) = 0", first.split("=")[0], "undo(1) = 0",
                    second, "undo(1) = 0", SCENE_STANDS);
            }
        }
        Runs.play("28: steps", "lay(0, 4, 1); take(4, 1); put(0, 0, 0); take(4, 2); put(0, 0, 0); take(4, 3); put(0, 0, 0)",
            "told(14) = 7; undo(2) = 5; cell(0, 0, 1) = 2; hand(1) = 2; undo(1) = 4; cell(0, 0, 1) = 1; hand(1) = 2",
            "take(4, 9); put(0, 0, 0); told(14) = 6; undo(3) = 3; cell(0, 0, 1) = 1; hand(1) = 1; undo(3) = 0; row(0, 0) = 14",
            "hand(0) = 9; undo(1) = NOT");
    }

    private static void latestSixteen() {
        Runs.play("28: a key in place of another", "key(1, 2, 1) = 1; unkey() = 0; key(3, 7, 0) = 1; undo(2) = 1",
            "keyAt(0, 0) = 1; keyAt(0, 1) = 2; keyAt(0, 2) = 1");
        RowRanks x = new RowRanks();
        for (int w = 1; w <= 20; w++) {
            Runs.goOn(x, "28", "weigh(0, " + w + ") = " + (w - 1) + "; told(14) = " + Math.min(w, 16));
        }
        Runs.goOn(x, "28: sixteen", "undo(16) = 0; tag(0, 0) = 4; undo(1) = NOT; weigh(0, 50) = 4; undo(1) = 0; tag(0, 0) = 4");
        RowRanks y = new RowRanks();
        for (int w = 1; w <= 37; w++) {
            Runs.goOn(y, "28", "weigh(0, " + w + ")");
        }
        Runs.goOn(y, "28: in parts", "undo(5) = 11; tag(0, 0) = 32; weigh(0, 100); told(14) = 12; undo(2) = 10; tag(0, 0) = 31",
            "undo(11) = NOT; undo(10) = 0; tag(0, 0) = 21");
        Runs.play("28: the times of drift", "lay(0, 4, 2); drift(12); told(14) = 13; drift(7); told(14) = 16; undo(16) = 0; row(0, 0) = 4");
    }

    private static void errors() {
        Runs.play("28: errors", "undo(0) = OUTSIDE; undo(17) = OUTSIDE; undo(-1) = OUTSIDE; undo(16) = NOT; undo(1) = NOT",
            "take(4, 1); undo(2) = NOT; hand(0) = 4; undo(1) = 0; hand(0) = 9");
    }

    private static void whatIsNotUndone() {
        Runs.play("28: the random number and the book stay", "lay(0, 4, 2); key(0, 8, 0); seed(5) = 0; drift(1); write(0, 0) = 1",
            "told(14) = 3; undo(3) = 0; told(12) = 1; told(13) = 0; told(15) = 2089129857");
        Runs.play("28: no deeds", "lay(0, 4, 2); sheet(1); write(0, 0); tear(); seed(1); told(14) = 2; would(0, 0); told(14) = 2",
            "undo(1) = 1; told(14) = 1");
    }

    private static void whatClears() {
        Runs.play("28: keep", "take(4, 1); keep(2) = UNKNOWN; told(14) = 1; keep(0) = 1; told(14) = 0; undo(1) = NOT; hand(0) = 4",
            "take(4, 2); undo(1) = 0; hand(1) = 1");
        Runs.play("28: goBack", "keep(0) = 1; take(4, 1); goBack(1) = NOT; told(14) = 1; goBack(0) = 1; told(14) = 0; undo(1) = NOT");
    }

    /** All six slots with all their cells, all weights and all keys come back. */
    private static void eachDeedOfABigScene() {
        String scene = DescriptionTest.bigScene() + "write(3, 7); keep(0) = 1;";
        List<Long> before = View.ofAll(Runs.play("28", scene));
        for (String deed : BIG_DEEDS) {
            Runs.play("28: a deed", scene, deed, "told(14) = 1");
            String call = deed.split("=")[0];
            // The random number is not undone, so it is set again.
            View.same("28: " + deed, View.ofAll(Runs.play("28", scene, deed, "undo(1) = 0; seed(4711)")), before);
            View.same("28: " + call + " twice", View.ofAll(Runs.play("28", scene, call, call, "undo(2) = 0; seed(4711)")), before);
        }
    }

    /** Behind 24 deeds, each number of them that can be undone leads to what was before them. */
    private static void eachNumberOfSteps() {
        List<String> deeds = new ArrayList<>(Arrays.asList(BIG_DEEDS));
        Collections.reverse(deeds);
        String scene = DescriptionTest.bigScene() + "keep(0) = 1;";
        for (int count : new int[] {5, 16, deeds.size()}) {
            for (int n = 1; n <= Math.min(count, 16); n++) {
                int left = Math.min(count, 16) - n;
                RowRanks undone = Runs.play("28: steps", scene, plain(deeds, count), "undo(" + n + ") = " + left);
                RowRanks earlier = Runs.play("28: steps", scene, plain(deeds, count - n));
                View.same("28: " + n + " of " + count, View.ofBench(undone), View.ofBench(earlier));
            }
        }
    }

    private static String plain(List<String> deeds, int count) {
        StringBuilder calls = new StringBuilder();
        for (String deed : deeds.subList(0, count)) {
            calls.append(deed.split("=")[0]).append(";");
        }
        return calls.toString();
    }

    private static void eachTimeOfDrift() {
        String scene = "lay(0, 9, 12); lay(1, 9, 12); lay(2, 9, 12); lay(3, 9, 12); lay(4, 9, 12); lay(5, 9, 12); keep(0); seed(9);";
        for (int n = 1; n <= 12; n++) {
            RowRanks undone = Runs.play("28: drift", scene, "drift(12) = 12; told(14) = 12; undo(" + n + ") = " + (12 - n));
            RowRanks earlier = Runs.play("28: drift", scene, n == 12 ? "" : "drift(" + (12 - n) + ") = " + (12 - n));
            View.same("28: times of drift", View.ofBench(undone), View.ofBench(earlier));
        }
        Runs.play("28: drift that puts nothing", "drift(3) = 0; told(14) = 3; undo(2) = 1; undo(1) = 0; undo(1) = NOT");
    }
}
