/** Promises 21 to 27: settle, pass, move, part, figure, deal, drift. */
public final class RearrangeTest {
    private static final String TWO_ROWS = Runs.filled(0, 4, 4, 3, 1, 2, 1) + Runs.filled(1, 9, 3, 10, 11, 12, 13)
        + "key(0, 8, 0) = 1;";

    private RearrangeTest() {
    }

    public static void main(String[] args) {
        settle();
        pass();
        moveExchanges();
        moveReverses();
        moveRotates();
        moveErrors();
        part();
        figure();
        figureErrors();
        figureReadsByLong();
        deal();
        dealAllHeaps();
        drift();
        driftOfEachValue();
        driftIntoEachKind();
        driftThatIsRefused();
        driftOfSeveralTimes();
        movesOfTwelve();
        Runs.finish();
    }

    private static void settle() {
        Runs.play("21", TWO_ROWS, "sheet(3) = 0; settle() = 3;" + Runs.holds(0, 1, 1, 2, 3) + Runs.holds(1, 11, 13, 12, 10),
            "settle() = 0; told(14) = 16");
        Runs.play("21: the key is not in the sheet", TWO_ROWS, "sheet(2) = 0; settle() = 3;" + Runs.holds(0, 3, 1, 2, 1)
            + Runs.holds(1, 11, 13, 12, 10), "settle() = 3;" + Runs.holds(1, 13, 10, 12, 11));
        Runs.play("21: an empty sheet", TWO_ROWS, "settle() = 3;" + Runs.holds(0, 3, 1, 2, 1) + Runs.holds(1, 10, 11, 12, 13));
        Runs.play("21: the sorts move, too", "lay(0, 9, 2); take(4, 5); put(0, 0, 0); key(0, 8, 0); sheet(1); settle() = 2",
            "cell(0, 0, 0) = 9; cell(0, 1, 0) = 4");
        Runs.play("21: not fit", "settle() = NOT; sheet(1); settle() = NOT; lay(0, 4, 0); settle() = 0");
    }

    private static void pass() {
        Runs.play("22", TWO_ROWS, "sheet(3) = 0; pass() = 3;" + Runs.holds(0, 1, 2, 1, 3) + Runs.holds(1, 11, 12, 13, 10),
            "pass() = 1;" + Runs.holds(0, 1, 1, 2, 3), "pass() = 0");
        Runs.play("22: the key is not in the sheet", TWO_ROWS, "sheet(2) = 0; pass() = 2;" + Runs.holds(0, 3, 1, 2, 1)
            + Runs.holds(1, 11, 10, 13, 12));
        Runs.play("22: an empty sheet", TWO_ROWS, "pass() = 2;" + Runs.holds(1, 10, 11, 12, 13));
        Runs.play("22: alike ones stay", Runs.filled(0, 4, 4, 2, 2), "sheet(1); key(0, 8, 1); pass() = 0; told(14) = 8; pass() = 0",
            "told(14) = 9");
        Runs.play("22: not fit", "pass() = NOT; sheet(1); pass() = NOT; lay(0, 4, 0); pass() = 0; lay(0, 4, 1); pass() = 0");
    }

    private static void moveExchanges() {
        Runs.play("23: exchange", TWO_ROWS, "sheet(3); move(0, 3, 0) = 1;" + Runs.holds(0, 1, 1, 2, 3) + Runs.holds(1, 13, 11, 12, 10),
            "move(2, 1, 0) = 1;" + Runs.holds(1, 13, 12, 11, 10), "move(2, 2, 0) = 1;" + Runs.holds(1, 13, 12, 11, 10));
    }

    private static void moveReverses() {
        Runs.play("23: reverse", TWO_ROWS, "sheet(2); move(0, 2, 1) = 1;" + Runs.holds(1, 12, 11, 10, 13) + Runs.holds(0, 3, 1, 2, 1),
            "move(3, 1, 1) = 1;" + Runs.holds(1, 12, 13, 10, 11), "move(1, 1, 1) = 1;" + Runs.holds(1, 12, 13, 10, 11));
    }

    private static void moveRotates() {
        Runs.play("23: rotate", TWO_ROWS, "sheet(2); move(0, 2, 2) = 1;" + Runs.holds(1, 11, 12, 10, 13),
            "move(3, 0, 2) = 1;" + Runs.holds(1, 13, 11, 12, 10), "move(2, 2, 2) = 1;" + Runs.holds(1, 13, 11, 12, 10),
            "move(2, 3, 2) = 1;" + Runs.holds(1, 13, 11, 10, 12));
    }

    private static void moveErrors() {
        Runs.play("23: errors", TWO_ROWS, "move(-1, 0, 0) = UNKNOWN; move(0, 4, 0) = UNKNOWN; move(4, 0, 3) = UNKNOWN",
            "move(0, -1, 0) = UNKNOWN; move(0, -1, 3) = UNKNOWN; move(0, 0, 3) = OUTSIDE; move(0, 0, -1) = OUTSIDE");
        Runs.play("23: not fit", "move(0, 0, 0) = UNKNOWN; move(0, 0, 9) = UNKNOWN; lay(0, 4, 0); sheet(1); move(0, 0, 0) = UNKNOWN");
    }

    private static void part() {
        String rows = Runs.filled(0, 4, 4, 5, 9, 5, 1, 7, 2) + Runs.filled(1, 4, 4, 10, 11, 12, 13, 14, 15) + "key(0, 8, 0);";
        Runs.play("24", rows, "sheet(3); part(2) = 202;" + Runs.holds(0, 1, 2, 5, 5, 9, 7) + Runs.holds(1, 13, 15, 10, 12, 11, 14),
            "part(0) = 1;" + Runs.holds(0, 1, 2, 5, 5, 9, 7), "part(4) = 501;" + Runs.holds(0, 1, 2, 5, 5, 7, 9));
        Runs.play("24: descending", rows, "unkey(); key(0, 8, 1); sheet(2); part(0) = 202;" + Runs.holds(1, 11, 14, 10, 12, 13, 15)
            + Runs.holds(0, 5, 9, 5, 1, 7, 2));
        Runs.play("24: in their previous sequence", Runs.filled(0, 4, 4, 9, 5, 5, 8, 5, 1, 0, 5) + Runs.filled(1, 4, 4, 0, 1, 2, 3, 4, 5, 6, 7),
            "key(0, 8, 0); sheet(2); part(4) = 204;" + Runs.holds(1, 5, 6, 1, 2, 4, 7, 0, 3));
        Runs.play("24: the last of them", Runs.filled(0, 4, 4, 9, 5, 5, 8, 5, 1, 0, 5) + Runs.filled(1, 4, 4, 0, 1, 2, 3, 4, 5, 6, 7),
            "key(0, 8, 0); sheet(3); part(7) = 204;" + Runs.holds(1, 5, 6, 1, 2, 4, 7, 0, 3) + Runs.holds(0, 1, 0, 5, 5, 5, 5, 9, 8));
        Runs.play("24: an empty sheet", rows, "part(2) = 202;" + Runs.holds(0, 5, 9, 5, 1, 7, 2) + Runs.holds(1, 10, 11, 12, 13, 14, 15));
        Runs.play("24: errors", rows, "part(6) = UNKNOWN; part(-1) = UNKNOWN");
        Runs.play("24: not fit", "part(0) = UNKNOWN");
    }

    private static void figure() {
        String rows = Runs.filled(0, 5, 5, 17, 8, -1, 9, 0) + "sheet(1);";
        Runs.play("25", rows, "figure(0, 0) = 4;" + Runs.holds(0, 8, 0, 17, 9, -1), "figure(0, 1) = 4;"
            + Runs.holds(0, 0, 8, 9, 17, -1), "figure(0, 20) = 0; figure(0, 0) = 0;" + Runs.holds(0, 0, 8, 9, 17, -1));
    }

    private static void figureErrors() {
        Runs.play("25: the top figure is unsigned", Runs.filled(0, 5, 5, -9223372036854775808L, 1152921504606846976L, 0),
            "sheet(1); figure(0, 20) = 2;" + Runs.holds(0, -9223372036854775808L, 0, 1152921504606846976L));
        Runs.play("25: a slot that is not concerned", Runs.filled(0, 4, 4, 5, 6, 7), Runs.filled(1, 1, 1, 3, -8, 1), "sheet(1)",
            "figure(1, 0) = 3;" + Runs.holds(0, 6, 7, 5) + Runs.holds(1, 3, -8, 1));
        Runs.play("25: errors", Runs.filled(0, 4, 4, 5, 6, 7), "figure(0, 0) = NOT; sheet(1); figure(0, 21) = OUTSIDE",
            "figure(0, -1) = OUTSIDE; figure(-1, 0) = UNKNOWN; figure(6, 99) = UNKNOWN; figure(1, 0) = NOT; lay(1, 4, 2)",
            "figure(1, 0) = NOT; lay(1, 6, 3); figure(1, 0) = NOT; lay(1, 0, 3); figure(1, 0) = NOT; lay(1, 8, 3)",
            "figure(1, 0) = NOT; lay(1, 12, 3); figure(1, 0) = NOT; lay(1, 3, 3); figure(1, 0) = 0; lay(1, 2, 3); figure(1, 20) = 0");
        Runs.play("25: no cells", "lay(0, 4, 0); lay(1, 9, 0); sheet(1); figure(1, 0) = 0; lay(1, 13, 0); figure(1, 0) = NOT");
        Runs.play("25: one cell", "lay(0, 4, 1); lay(1, 9, 1); sheet(1); figure(1, 0) = NOT; figure(0, 0) = 0");
    }

    private static void figureReadsByLong() {
        Runs.play("25: bytes keep their sign", Runs.filled(0, 1, 1, -1, 0, 127), "sheet(1); figure(0, 20) = 3;" + Runs.holds(0, 0, 127, -1));
        Runs.play("25: chars have none", Runs.filled(0, 2, 2, 65535, 0, 32768), "sheet(1); figure(0, 5) = 2;" + Runs.holds(0, 0, 65535, 32768),
            "figure(0, 6) = 0; figure(0, 20) = 0; figure(0, 4) = 2;" + Runs.holds(0, 0, 32768, 65535));
        Runs.play("25: shorts", Runs.filled(0, 3, 3, -1, 0, -32768), "sheet(1); figure(0, 4) = 3;" + Runs.holds(0, 0, -32768, -1));
        Runs.play("25: ints", Runs.filled(0, 4, 4, -8, 7, 2147483647), "sheet(1); figure(0, 10) = 3;" + Runs.holds(0, 7, 2147483647, -8),
            "figure(0, 0) = 3;" + Runs.holds(0, -8, 7, 2147483647));
        for (int f = 0; f <= 20; f++) {
            // The three bits of figure f descend from 7 to 0, all the others are set in turn.
            long[] row = new long[8];
            long[] sorted = new long[8];
            for (int p = 0; p < 8; p++) {
                long others = p % 2 == 0 ? ~(7L << 3 * f) : 0;
                row[p] = (long) (7 - p) << 3 * f | others;
                sorted[7 - p] = row[p];
            }
            Runs.play("25: figure " + f, Runs.filled(5, 5, 5, row), "sheet(32); figure(5, " + f + ") = 8;" + Runs.holds(5, sorted));
        }
    }

    private static void dealAllHeaps() {
        for (int length = 0; length <= 12; length++) {
            for (int k = 1; k <= 12; k++) {
                long[] row = new long[length];
                long[] dealt = new long[length];
                int moved = 0;
                int next = 0;
                for (int p = 0; p < length; p++) {
                    row[p] = p;
                }
                for (int heap = 0; heap < k; heap++) {
                    for (int p = 0; p < length; p++) {
                        if (p % k == heap) {
                            moved += p == next ? 0 : 1;
                            dealt[next++] = p;
                        }
                    }
                }
                Runs.play("26: " + length + " places", Runs.filled(0, 4, 4, row), "sheet(1); deal(" + k + ") = " + moved + ";"
                    + Runs.holds(0, dealt));
            }
        }
    }

    private static void movesOfTwelve() {
        String rows = Runs.filled(0, 1, 1, 11, 10, 9, 8, 7, 6, 5, 4, 3, 2, 1, 0) + Runs.filled(5, 9, 5, 0, 1, 2, 3, 4, 5, 6, 7, 8, 9, 10, 11)
            + "key(0, 8, 0); sheet(33);";
        Runs.play("21: twelve", rows, "settle() = 12;" + Runs.holds(0, 0, 1, 2, 3, 4, 5, 6, 7, 8, 9, 10, 11)
            + Runs.holds(5, 11, 10, 9, 8, 7, 6, 5, 4, 3, 2, 1, 0), "settle() = 0; pass() = 0");
        Runs.play("22: twelve", rows, "pass() = 11;" + Runs.holds(0, 10, 9, 8, 7, 6, 5, 4, 3, 2, 1, 0, 11)
            + Runs.holds(5, 1, 2, 3, 4, 5, 6, 7, 8, 9, 10, 11, 0), "pass() = 10; told(8) = 9");
        Runs.play("23: the ends of twelve", rows, "move(0, 11, 2) = 1;" + Runs.holds(5, 1, 2, 3, 4, 5, 6, 7, 8, 9, 10, 11, 0),
            "move(0, 11, 1) = 1;" + Runs.holds(5, 0, 11, 10, 9, 8, 7, 6, 5, 4, 3, 2, 1), "move(11, 0, 2) = 1;"
            + Runs.holds(5, 1, 0, 11, 10, 9, 8, 7, 6, 5, 4, 3, 2), "move(11, 0, 0) = 1;" + Runs.holds(5, 2, 0, 11, 10, 9, 8, 7, 6, 5, 4, 3, 1),
            "move(12, 0, 0) = UNKNOWN; move(0, 12, 0) = UNKNOWN");
        Runs.play("24: twelve", rows, "part(0) = 1101;" + Runs.holds(0, 10, 9, 8, 7, 6, 5, 4, 3, 2, 1, 0, 11), "part(12) = UNKNOWN",
            "part(10) = 1;" + Runs.holds(0, 0, 10, 9, 8, 7, 6, 5, 4, 3, 2, 1, 11));
        Runs.play("24: twelve that are alike", "lay(0, 4, 12); sheet(1); part(7) = 12; key(0, 0, 0); told(2) = NONE; part(7) = UNKNOWN");
    }

    private static void deal() {
        String row = Runs.filled(0, 4, 4, 0, 1, 2, 3, 4, 5, 6) + "sheet(1);";
        Runs.play("26", row, "deal(3) = 5;" + Runs.holds(0, 0, 3, 6, 1, 4, 2, 5));
        Runs.play("26: two heaps", row, "deal(2) = 6;" + Runs.holds(0, 0, 2, 4, 6, 1, 3, 5));
        Runs.play("26: one heap", row, "deal(1) = 0;" + Runs.holds(0, 0, 1, 2, 3, 4, 5, 6));
        Runs.play("26: more heaps than places", row, "deal(12) = 0;" + Runs.holds(0, 0, 1, 2, 3, 4, 5, 6));
        Runs.play("26: errors", "deal(0) = OUTSIDE; deal(13) = OUTSIDE; deal(-1) = OUTSIDE; deal(1) = NOT; sheet(1); deal(1) = NOT",
            "lay(0, 4, 0); deal(5) = 0");
    }

    private static void drift() {
        Runs.play("27: errors", "drift(0) = OUTSIDE; drift(13) = OUTSIDE; drift(-1) = OUTSIDE; told(15) = 0; told(14) = 0");
        // the draws after seed 0 are 0 of 6, 0 of 12, 8 of 10 (a tag) and 101 of 256
        Runs.play("27: a tag", Runs.filled(0, 9, 4, 1, 1, 1, 1, 1, 1, 1, 1, 1, 1, 1, 1), drawnPut(0), "told(14) = 16");
        for (int seed = 1; seed < 120; seed += 7) {
            Runs.play("27: seed " + seed, "lay(0, 9, 12); lay(1, 9, 12); lay(2, 9, 12); lay(3, 9, 12); lay(4, 9, 12); lay(5, 9, 12)",
                "take(3, 99); told(14) = 7", drawnPut(seed), "told(14) = 8; hand(0) = 3; hand(1) = 99; undo(1) = 7",
                "told(15) = " + afterDraws(seed));
        }
        Runs.play("27: each time is a deed", "drift(5) = 0; told(14) = 5; drift(12) = 0; told(14) = 16");
    }

    private static long next(long x) {
        return (x * 1103515245L + 12345L) % 2147483648L;
    }

    private static long afterDraws(long seed) {
        return next(next(next(next(seed))));
    }

    /** A drift of one time into Object arrays of 12 cells, and the cell that it must have changed. */
    private static String drawnPut(long seed) {
        long slot = next(seed) / 65536 % 6;
        long i = next(next(seed)) / 65536 % 12;
        long sort = next(next(next(seed))) / 65536 % 10;
        long u = afterDraws(seed) / 65536 % 256;
        long number = sort == 0 ? (u == 128 ? 0 : 1) : sort == 2 ? u - 128 & 65535 : sort == 8 ? u % 8 : sort == 9 ? 0 : u - 128;
        String cell = "cell(" + slot + ", " + i + ", ";
        return "seed(" + seed + ") = 0; drift(1) = 1; told(15) = " + afterDraws(seed) + ";"
            + cell + "0) = " + sort + ";" + cell + "1) = " + number + ";";
    }

    /** The first seed after which a sort t and a number u are drawn, and a cell below the bound. */
    private static long seedFor(int t, int u, int cells) {
        long seed = 0;
        while (next(next(next(seed))) / 65536 % 10 != t || afterDraws(seed) / 65536 % 256 != u || next(next(seed)) / 65536 % 12 >= cells) {
            seed++;
        }
        return seed;
    }

    private static String allSlots(int kind, int n) {
        StringBuilder calls = new StringBuilder();
        for (int slot = 0; slot < 6; slot++) {
            calls.append("lay(" + slot + ", " + kind + ", " + n + ");");
        }
        return calls.toString();
    }

    private static void driftOfEachValue() {
        for (int t = 0; t <= 9; t++) {
            for (int u : new int[] {0, 1, 127, 128, 129, 255}) {
                Runs.play("27: sort " + t + " of " + u, allSlots(9, 12), drawnPut(seedFor(t, u, 12)), "hand(0) = 9; hand(1) = 0");
            }
        }
    }

    private static void driftIntoEachKind() {
        String[] held = {"0", "1", "2", "13", "1234", "12345", "123456", "1234567", "49", "0123456789", "89", "89"};
        for (int kind = 0; kind <= 14; kind++) {
            for (int t = 0; t <= 9; t++) {
                // u = 133 gives the number 5, and the tag 5, which is a seal.
                long seed = seedFor(t, 133, 12);
                int puts = kind <= 11 && held[kind].indexOf('0' + t) >= 0 ? 1 : 0;
                long slot = next(seed) / 65536 % 6;
                long i = next(next(seed)) / 65536 % 12;
                String cell = "cell(" + slot + ", " + i + ", ";
                int sort = kind > 11 ? kind == 14 ? -11 : -12 : kind <= 7 ? kind : puts == 1 ? t : 9;
                int number = puts == 0 || t == 9 ? 0 : t == 0 ? 1 : 5;
                Runs.play("27: sort " + t + " into kind " + kind, allSlots(kind, 12), "keep(0); seed(" + seed + "); take(4, 3)",
                    "drift(1) = " + puts + "; " + cell + "0) = " + sort + "; " + cell + "1) = " + number + "; hand(0) = 4; hand(1) = 3",
                    "told(14) = 2; told(15) = " + afterDraws(seed));
            }
        }
        Runs.play("27: no seal", allSlots(11, 12), "seed(" + seedFor(8, 131, 12) + "); drift(1) = 0");
        Runs.play("27: tag of u % 8", allSlots(11, 12), "seed(" + seedFor(8, 15, 12) + "); drift(1) = 1; tag(7, 2) = 1");
    }

    private static void driftThatIsRefused() {
        long inside = seedFor(5, 140, 3);
        long i = next(next(inside)) / 65536 % 12;
        Runs.play("27: the last cell", allSlots(9, (int) i + 1), "seed(" + inside + "); drift(1) = 1; told(14) = 7");
        Runs.play("27: no such cell", allSlots(9, (int) i), "seed(" + inside + "); drift(1) = 0; told(14) = 7",
            "told(15) = " + afterDraws(inside) + "; undo(1) = 6; told(15) = " + afterDraws(inside));
    }

    private static void driftOfSeveralTimes() {
        for (int n = 1; n <= 12; n++) {
            RowRanks atOnce = Runs.play("27: " + n + " times", allSlots(9, 7), "seed(31); take(0, 1); drift(" + n + ")");
            RowRanks oneByOne = Runs.play("27: one by one", allSlots(9, 7), "seed(31); take(0, 1);", "drift(1);".repeat(n));
            View.same("27: " + n + " times", View.ofAll(atOnce), View.ofAll(oneByOne));
        }
        Runs.play("27: how many were put", allSlots(9, 12), "drift(12) = 12; lay(0, 14, 0); lay(1, 14, 0); lay(2, 14, 0); seed(0)",
            "drift(12) = " + drawsOfSlots(0, 12));
    }

    /** How many of n times of drift draw one of the slots 3 to 5. */
    private static int drawsOfSlots(long seed, int n) {
        int count = 0;
        long x = seed;
        for (int time = 0; time < n; time++) {
            count += next(x) / 65536 % 6 >= 3 ? 1 : 0;
            x = afterDraws(x);
        }
        return count;
    }
}
