/** Promises 8 to 11: rank, compare, below, would, and the order of values. */
public final class OrderTest {
    private OrderTest() {
    }

    public static void main(String[] args) {
        rank();
        compare();
        orderOfValues();
        orderByAnotherType();
        below();
        belowRefused();
        belowOfEachKind();
        would();
        wouldWithoutKeys();
        wouldRefused();
        Runs.finish();
    }

    private static void rank() {
        Runs.play("8", Runs.filled(0, 3, 3, 20, 10, 20, 5, 10), "key(0, 8, 0) = 1",
            "rank(0, 0) = 3; rank(0, 1) = 2; rank(0, 2) = 3; rank(0, 3) = 2; rank(0, 4) = 3",
            "rank(1, 0) = 1; rank(1, 1) = 1; rank(1, 2) = 1; rank(1, 3) = 2; rank(1, 4) = 1",
            "rank(2, 0) = 3; rank(2, 1) = 2; rank(2, 2) = 4; rank(2, 3) = 2; rank(2, 4) = 4",
            "rank(3, 0) = 0; rank(3, 1) = 0; rank(3, 2) = 0; rank(3, 3) = 1; rank(3, 4) = 0",
            "rank(4, 0) = 1; rank(4, 1) = 1; rank(4, 2) = 2; rank(4, 3) = 2; rank(4, 4) = 2",
            "rank(5, 0) = UNKNOWN; rank(-1, 0) = UNKNOWN; rank(5, 9) = UNKNOWN; rank(0, 5) = OUTSIDE; rank(0, -1) = OUTSIDE");
        Runs.play("8: descending", Runs.filled(0, 3, 3, 20, 10, 20, 5, 10), "key(0, 8, 1) = 1; rank(3, 2) = 4",
            "rank(0, 2) = 0; rank(2, 2) = 1; rank(1, 2) = 2; rank(4, 2) = 3; rank(3, 0) = 4; rank(3, 1) = 2; rank(4, 4) = 3");
        Runs.play("8: not fit", "rank(0, 0) = UNKNOWN; rank(0, 9) = UNKNOWN; lay(0, 4, 0); key(0, 8, 0); rank(0, 0) = UNKNOWN");
    }

    private static void compare() {
        Runs.play("9", Runs.filled(0, 4, 4, 2, 1, 2), Runs.filled(1, 7, 7, 5, 5, 6), "key(0, 8, 0) = 1",
            "compare(0, 1) = 2; compare(1, 0) = 0; compare(0, 2) = 1; compare(1, 1) = 1; key(1, 8, 1) = 2",
            "compare(0, 2) = 2; compare(2, 0) = 0; compare(1, 2) = 0; compare(0, 3) = UNKNOWN; compare(3, 0) = UNKNOWN",
            "compare(-1, 0) = UNKNOWN; compare(0, -1) = UNKNOWN");
        Runs.play("9: not fit", "compare(0, 0) = UNKNOWN");
        Runs.play("9: without keys all are alike", Runs.filled(0, 4, 4, 2, 1, 2), "sheet(1); compare(0, 1) = 1");
    }

    private static void orderOfValues() {
        // an Object array: null, boolean, byte, char, short, int, long, float, double, tag ascend
        String row = "lay(0, 9, 10); take(0, 1); put(0, 1, 0); take(1, 0); put(0, 2, 0); take(2, 9); put(0, 3, 0);"
            + "take(3, -9); put(0, 4, 0); take(4, -10); put(0, 5, 0); take(5, -11); put(0, 6, 0);"
            + "take(6, -12); put(0, 7, 0); take(7, -13); put(0, 8, 0); take(8, 0); put(0, 9, 0); weigh(0, -1000);";
        RowRanks x = Runs.play("order of sorts", row, "key(0, 8, 0) = 1; told(4) = 0; told(3) = 0; told(11) = 16");
        for (int p = 0; p < 10; p++) {
            Runs.goOn(x, "order of sorts", "rank(" + p + ", 0) = " + p);
        }
        Runs.play("nulls are alike", "lay(0, 8, 3); take(4, -5); put(0, 0, 0); key(0, 8, 0); compare(1, 2) = 1; compare(1, 0) = 0");
        Runs.play("tags by heft", Runs.filled(0, 10, 8, 4, 5, 7, 3), "key(0, 8, 0) = 1; compare(0, 1) = 1; compare(0, 2) = 0",
            "compare(3, 0) = 0; weigh(3, 4) = 1; compare(3, 0) = 1; weigh(3, 5) = 4; compare(3, 0) = 2; rank(2, 0) = 3");
        Runs.play("chars", Runs.filled(0, 2, 2, -1, 1), "key(0, 8, 0) = 1; compare(0, 1) = 2");
        Runs.play("booleans", Runs.filled(0, 0, 0, 5, 0), "key(0, 0, 0) = 1; compare(0, 1) = 2");
    }

    private static void orderByAnotherType() {
        String longs = Runs.filled(0, 5, 5, 9007199254740993L, 9007199254740992L);
        Runs.play("longs as longs", longs, "key(0, 5, 0); compare(0, 1) = 2");
        Runs.play("longs as doubles", longs, "key(0, 7, 0); compare(0, 1) = 1");
        String ends = Runs.filled(0, 5, 5, 9223372036854775807L, 9223371487098961920L, -9223372036854775808L);
        Runs.play("longs as floats", ends, "key(0, 6, 0); compare(0, 1) = 2; compare(1, 2) = 2; told(4) = 3");
        String ints = Runs.filled(0, 4, 4, 16777217, 16777216);
        Runs.play("ints as floats", ints, "key(0, 6, 0); compare(0, 1) = 1; unkey(); key(0, 7, 0); compare(0, 1) = 2");
        String[] fitting = {"0", "134567", "24567", "34567", "4567", "567", "67", "7", "", "", "", ""};
        for (int kind = 0; kind < 12; kind++) {
            for (int by = 0; by < 8; by++) {
                boolean fits = fitting[kind].indexOf('0' + by) >= 0;
                Runs.play("kind " + kind + " by " + by, "lay(1, " + kind + ", 2); key(1, " + by + ", 0)",
                    "told(2) = " + (fits ? 2 : -1), "pick(1, 0, " + by + ") = " + (fits ? 0 : 4));
            }
        }
    }

    private static void below() {
        Runs.play("10", Runs.filled(0, 4, 4, 5, 1, 5, 9), "take(1, 5); below(0, 4, 0) = 1; below(0, 4, 1) = 2",
            "below(0, 7, 1) = 2; below(0, 8, 0) = 0; below(0, 8, 1) = 0; take(4, 5); below(0, 8, 0) = 1; below(0, 8, 1) = 2",
            "take(5, 0); below(0, 8, 0) = 4; take(9, 0); below(0, 8, 0) = 0; below(0, 8, 1) = 0");
        Runs.play("10: converted", Runs.filled(0, 5, 5, 16777217, 16777216), "take(4, 16777217); below(0, 6, 1) = 2",
            "below(0, 5, 0) = 1; below(0, 5, 1) = 1");
        Runs.play("10: tags and null", Runs.filled(0, 9, 8, 4, 6, 2), "take(8, 5); below(0, 8, 0) = 1; below(0, 8, 1) = 1",
            "lay(1, 9, 3); below(1, 8, 0) = 3; take(9, 0); below(1, 8, 1) = 3; below(1, 8, 0) = 0");
        Runs.play("10: no concerned slot is needed", "lay(5, 0, 12); take(0, 1); below(5, 0, 0) = 12; below(5, 0, 1) = 0");
    }

    private static void belowRefused() {
        Runs.play("10: errors", "below(-1, 0, 0) = UNKNOWN; below(6, 9, 9) = UNKNOWN; below(0, 9, 0) = OUTSIDE",
            "below(0, -1, 0) = OUTSIDE; below(0, 0, 2) = OUTSIDE; below(0, 0, -1) = OUTSIDE");
        Runs.play("10: none", "take(4, 1); below(0, 8, 0) = NONE; lay(0, 12, 3); below(0, 8, 0) = NONE; lay(0, 13, 3)",
            "below(0, 8, 1) = NONE; lay(0, 5, 3); below(0, 4, 0) = NONE; below(0, 5, 1) = 0; below(0, 5, 0) = 3",
            "take(7, 1); below(0, 5, 0) = NONE; below(0, 6, 0) = NONE; below(0, 7, 0) = 3; take(8, 1)",
            "below(0, 7, 0) = NONE; take(9, 1); below(0, 7, 0) = NONE; lay(0, 8, 3); take(4, 1); below(0, 4, 0) = NONE");
        Runs.play("10: no cells", "lay(0, 5, 0); take(4, 1); below(0, 4, 0) = 0; take(5, 1); below(0, 4, 0) = NONE",
            "take(9, 1); below(0, 4, 0) = NONE; below(0, 8, 0) = 0; lay(1, 10, 0); take(0, 1); below(1, 0, 1) = 0");
        Runs.play("10: one cell", "lay(0, 5, 1); take(4, 1); below(0, 4, 0) = NONE; below(0, 5, 0) = 1");
    }

    /** Cells that are all 0 or null against the hand, for each kind, each way to read and each sort in the hand. */
    private static void belowOfEachKind() {
        String[] fitting = {"0", "134567", "24567", "34567", "4567", "567", "67", "7", "", ""};
        for (int kind = 0; kind <= 14; kind++) {
            for (int by = 0; by <= 8; by++) {
                for (int sort = 0; sort <= 9; sort++) {
                    boolean handFits = by == 8 || fitting[sort].indexOf('0' + by) >= 0;
                    boolean cellsFit = by == 8 || kind <= 7 && fitting[kind].indexOf('0' + by) >= 0;
                    boolean areLess = by < 8 || sort != 9 && (kind > 7 || kind <= sort);
                    boolean areAlike = by == 8 && sort == 9 && kind > 7;
                    String none = kind > 11 || !handFits ? "NONE" : null;
                    String less = none != null ? none : !cellsFit ? "NONE" : areLess ? "3" : "0";
                    String alike = none != null ? none : !cellsFit ? "NONE" : areAlike ? "3" : "0";
                    String ofNone = none != null ? none : "0";
                    Runs.play("10: kind " + kind + " by " + by + ", hand " + sort, "take(" + sort + ", 1); lay(5, " + kind + ", 3)",
                        "below(5, " + by + ", 0) = " + less + "; below(5, " + by + ", 1) = " + alike + "; lay(5, " + kind + ", 0)",
                        "below(5, " + by + ", 0) = " + ofNone + "; below(5, " + by + ", 1) = " + ofNone);
                }
            }
        }
    }

    private static void would() {
        Runs.play("11", Runs.filled(0, 5, 5, 10, 20, 30, 40), "key(0, 8, 0); take(4, 35); would(0, 0) = 2; would(0, 3) = 3",
            "would(0, 2) = 2; cell(0, 0, 1) = 10; told(4) = 0; take(4, 10); would(0, 3) = 0; take(1, -1); would(0, 3) = 0",
            "told(14) = 13;" + Runs.holds(0, 10, 20, 30, 40));
        Runs.play("11: descending", Runs.filled(0, 5, 5, 10, 20, 30, 40), "key(0, 8, 1); take(4, 35); would(0, 0) = 1",
            "rank(0, 0) = 3");
        Runs.play("11: a slot that is not concerned", Runs.filled(0, 5, 5, 10, 20), "lay(1, 9, 5); key(0, 8, 0)",
            "would(1, 1) = 1; would(1, 0) = 0; would(1, 2) = NONE; lay(2, 4, 1); would(2, 1) = NONE; would(2, 0) = NONE",
            "take(3, 7); would(2, 0) = 0");
    }

    private static void wouldWithoutKeys() {
        Runs.play("11: all are alike", "lay(0, 4, 3); lay(1, 4, 3); lay(2, 4, 5); sheet(2); take(4, 9); would(0, 1) = 0; would(1, 1) = 0",
            "would(2, 2) = 0; would(2, 3) = NONE; would(0, 3) = NONE");
        Runs.play("11: nothing is changed", Runs.filled(0, 9, 4, 3, 1, 2), "key(0, 8, 0); sheet(1); take(1, 9); keep(0); would(0, 1) = 0",
            "would(0, 0) = 0; would(0, 2) = 0; cell(0, 0, 0) = 4; cell(0, 1, 0) = 4; cell(0, 2, 0) = 4;", Runs.holds(0, 3, 1, 2),
            "hand(0) = 1; told(14) = 0; take(5, 0); would(0, 1) = 2; would(0, 0) = 2; take(9, 0); would(0, 0) = 0");
        Runs.play("11: converted to the cell's sort", Runs.filled(0, 6, 6, 16777216, 5), "key(0, 8, 0); take(4, 16777217); would(0, 1) = 0",
            "take(4, 16777219); would(0, 1) = 1; take(7, 9); would(0, 1) = NONE");
        Runs.play("11: how many places are less, not its position", Runs.filled(0, 4, 4, 5, 5, 5, 1), "key(0, 8, 0); take(4, 5)",
            "would(0, 3) = 0; would(0, 2) = 1; take(4, 6); would(0, 0) = 3; would(0, 3) = 3; take(4, 1); would(0, 1) = 0");
    }

    private static void wouldRefused() {
        Runs.play("11: refused", "would(-1, 0) = UNKNOWN; would(6, 0) = UNKNOWN; would(0, 0) = NONE; lay(0, 3, 2)",
            "take(3, 1); would(0, 0) = NONE; key(0, 8, 0); would(0, 0) = 1; would(0, 2) = NONE; would(0, -1) = NONE",
            "take(4, 1); would(0, 0) = NONE; lay(1, 12, 0); would(1, 0) = NONE; would(2, 0) = NONE; hand(1) = 1");
    }
}
