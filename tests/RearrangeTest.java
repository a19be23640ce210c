/** Promises 21 to 27: settle, pass, move, part, figure, deal, drift. */
public final class RearrangeTest {
    private static final String TWO_ROWS = Runs.filled(0, 4, 4, 3, 1, 2, 1) + Runs.filled(1, 9, 3, 10, 11, 12, 13)
        + "key(0, 8, 0) = 1;";

    private RearrangeTest() {
    }

    public static void main(String[] args) {
        settle();
        pass();
        moveExchanges();
        moveReverses();
        moveRotates();
        moveErrors();
        part();
        figure();
        figureErrors();
        deal();
        drift();
        Runs.finish();
    }

    private static void settle() {
        Runs.play("21", TWO_ROWS, "sheet(3) = 0; settle() = 3;" + Runs.holds(0, 1, 1, 2, 3) + Runs.holds(1, 11, 13, 12, 10),
            "settle() = 0; told(14) = 16");
        Runs.play("21: the key is not in the sheet", TWO_ROWS, "sheet(2) = 0; settle() = 3;" + Runs.holds(0, 3, 1, 2, 1)
            + Runs.holds(1, 11, 13, 12, 10), "settle() = 3;" + Runs.holds(1, 13, 10, 12, 11));
        Runs.play("21: an empty sheet", TWO_ROWS, "settle() = 3;" + Runs.holds(0, 3, 1, 2, 1) + Runs.holds(1, 10, 11, 12, 13));
        Runs.play("21: the sorts move, too", "lay(0, 9, 2); take(4, 5); put(0, 0, 0); key(0, 8, 0); sheet(1); settle() = 2",
            "cell(0, 0, 0) = 9; cell(0, 1, 0) = 4");
        Runs.play("21: not fit", "settle() = NOT; sheet(1); settle() = NOT; lay(0, 4, 0); settle() = 0");
    }

    private static void pass() {
        Runs.play("22", TWO_ROWS, "sheet(3) = 0; pass() = 3;" + Runs.holds(0, 1, 2, 1, 3) + Runs.holds(1, 11, 12, 13, 10),
            "pass() = 1;" + Runs.holds(0, 1, 1, 2, 3), "pass() = 0");
        Runs.play("22: the key is not in the sheet", TWO_ROWS, "sheet(2) = 0; pass() = 2;" + Runs.holds(0, 3, 1, 2, 1)
            + Runs.holds(1, 11, 10, 13, 12));
        Runs.play("22: an empty sheet", TWO_ROWS, "pass() = 2;" + Runs.holds(1, 10, 11, 12, 13));
        Runs.play("22: alike ones stay", Runs.filled(0, 4, 4, 2, 2), "sheet(1); key(0, 8, 1); pass() = 0; told(14) = 8; pass() = 0",
            "told(14) = 9");
        Runs.play("22: not fit", "pass() = NOT; sheet(1); pass() = NOT; lay(0, 4, 0); pass() = 0; lay(0, 4, 1); pass() = 0");
    }

    private static void moveExchanges() {
        Runs.play("23: exchange", TWO_ROWS, "sheet(3); move(0, 3, 0) = 1;" + Runs.holds(0, 1, 1, 2, 3) + Runs.holds(1, 13, 11, 12, 10),
            "move(2, 1, 0) = 1;" + Runs.holds(1, 13, 12, 11, 10), "move(2, 2, 0) = 1;" + Runs.holds(1, 13, 12, 11, 10));
    }

    private static void moveReverses() {
        Runs.play("23: reverse", TWO_ROWS, "sheet(2); move(0, 2, 1) = 1;" + Runs.holds(1, 12, 11, 10, 13) + Runs.holds(0, 3, 1, 2, 1),
            "move(3, 1, 1) = 1;" + Runs.holds(1, 12, 13, 10, 11), "move(1, 1, 1) = 1;" + Runs.holds(1, 12, 13, 10, 11));
    }

    private static void moveRotates() {
        Runs.play("23: rotate", TWO_ROWS, "sheet(2); move(0, 2, 2) = 1;" + Runs.holds(1, 11, 12, 10, 13),
            "move(3, 0, 2) = 1;" + Runs.holds(1, 13, 11, 12, 10), "move(2, 2, 2) = 1;" + Runs.holds(1, 13, 11, 12, 10),
            "move(2, 3, 2) = 1;" + Runs.holds(1, 13, 11, 10, 12));
    }

    private static void moveErrors() {
        Runs.play("23: errors", TWO_ROWS, "move(-1, 0, 0) = UNKNOWN; move(0, 4, 0) = UNKNOWN; move(4, 0, 3) = UNKNOWN",
            "move(0, 0, 3) = OUTSIDE; move(0, 0, -1) = OUTSIDE");
        Runs.play("23: not fit", "move(0, 0, 0) = UNKNOWN; move(0, 0, 9) = UNKNOWN; lay(0, 4, 0); sheet(1); move(0, 0, 0) = UNKNOWN");
    }

    private static void part() {
        String rows = Runs.filled(0, 4, 4, 5, 9, 5, 1, 7, 2) + Runs.filled(1, 4, 4, 10, 11, 12, 13, 14, 15) + "key(0, 8, 0);";
        Runs.play("24", rows, "sheet(3); part(2) = 202;" + Runs.holds(0, 1, 2, 5, 5, 9, 7) + Runs.holds(1, 13, 15, 10, 12, 11, 14),
            "part(0) = 1;" + Runs.holds(0, 1, 2, 5, 5, 9, 7), "part(4) = 501;" + Runs.holds(0, 1, 2, 5, 5, 7, 9));
        Runs.play("24: descending", rows, "unkey(); key(0, 8, 1); sheet(2); part(0) = 202;" + Runs.holds(1, 11, 14, 10, 12, 13, 15)
            + Runs.holds(0, 5, 9, 5, 1, 7, 2));
        Runs.play("24: errors", rows, "part(6) = UNKNOWN; part(-1) = UNKNOWN");
        Runs.play("24: not fit", "part(0) = UNKNOWN");
    }

    private static void figure() {
        String rows = Runs.filled(0, 5, 5, 17, 8, -1, 9, 0) + "sheet(1);";
        Runs.play("25", rows, "figure(0, 0) = 4;" + Runs.holds(0, 8, 0, 17, 9, -1), "figure(0, 1) = 4;"
            + Runs.holds(0, 0, 8, 9, 17, -1), "figure(0, 20) = 0; figure(0, 0) = 0;" + Runs.holds(0, 0, 8, 9, 17, -1));
    }

    private static void figureErrors() {
        Runs.play("25: the top figure is unsigned", Runs.filled(0, 5, 5, -9223372036854775808L, 1152921504606846976L, 0),
            "sheet(1); figure(0, 20) = 2;" + Runs.holds(0, -9223372036854775808L, 0, 1152921504606846976L));
        Runs.play("25: a slot that is not concerned", Runs.filled(0, 4, 4, 5, 6, 7), Runs.filled(1, 1, 1, 3, -8, 1), "sheet(1)",
            "figure(1, 0) = 3;" + Runs.holds(0, 6, 7, 5) + Runs.holds(1, 3, -8, 1));
        Runs.play("25: errors", Runs.filled(0, 4, 4, 5, 6, 7), "figure(0, 0) = NOT; sheet(1); figure(0, 21) = OUTSIDE",
            "figure(0, -1) = OUTSIDE; figure(-1, 0) = UNKNOWN; figure(6, 99) = UNKNOWN; figure(1, 0) = NOT; lay(1, 4, 2)",
            "figure(1, 0) = NOT; lay(1, 6, 3); figure(1, 0) = NOT; lay(1, 0, 3); figure(1, 0) = NOT; lay(1, 8, 3)",
            "figure(1, 0) = NOT; lay(1, 12, 3); figure(1, 0) = NOT; lay(1, 3, 3); figure(1, 0) = 0; lay(1, 2, 3); figure(1, 20) = 0");
        Runs.play("25: no cells", "lay(0, 4, 0); lay(1, 9, 0); sheet(1); figure(1, 0) = 0; lay(1, 13, 0); figure(1, 0) = NOT");
        Runs.play("25: one cell", "lay(0, 4, 1); lay(1, 9, 1); sheet(1); figure(1, 0) = NOT; figure(0, 0) = 0");
    }

    private static void deal() {
        String row = Runs.filled(0, 4, 4, 0, 1, 2, 3, 4, 5, 6) + "sheet(1);";
        Runs.play("26", row, "deal(3) = 5;" + Runs.holds(0, 0, 3, 6, 1, 4, 2, 5));
        Runs.play("26: two heaps", row, "deal(2) = 6;" + Runs.holds(0, 0, 2, 4, 6, 1, 3, 5));
        Runs.play("26: one heap", row, "deal(1) = 0;" + Runs.holds(0, 0, 1, 2, 3, 4, 5, 6));
        Runs.play("26: more heaps than places", row, "deal(12) = 0;" + Runs.holds(0, 0, 1, 2, 3, 4, 5, 6));
        Runs.play("26: errors", "deal(0) = OUTSIDE; deal(13) = OUTSIDE; deal(-1) = OUTSIDE; deal(1) = NOT; sheet(1); deal(1) = NOT",
            "lay(0, 4, 0); deal(5) = 0");
    }

    private static void drift() {
        Runs.play("27: errors", "drift(0) = OUTSIDE; drift(13) = OUTSIDE; drift(-1) = OUTSIDE; told(15) = 0; told(14) = 0");
        // the draws after seed 0 are 0 of 6, 0 of 12, 8 of 10 (a tag) and 101 of 256
        Runs.play("27: a tag", Runs.filled(0, 9, 4, 1, 1, 1, 1, 1, 1, 1, 1, 1, 1, 1, 1), drawnPut(0), "told(14) = 16");
        for (int seed = 1; seed < 120; seed += 7) {
            Runs.play("27: seed " + seed, "lay(0, 9, 12); lay(1, 9, 12); lay(2, 9, 12); lay(3, 9, 12); lay(4, 9, 12); lay(5, 9, 12)",
                "take(3, 99); told(14) = 7", drawnPut(seed), "told(14) = 8; hand(0) = 3; hand(1) = 99; undo(1) = 7",
                "told(15) = " + afterDraws(seed));
        }
        Runs.play("27: each time is a deed", "drift(5) = 0; told(14) = 5; drift(12) = 0; told(14) = 16");
    }

    private static long next(long x) {
        return (x * 1103515245L + 12345L) % 2147483648L;
    }

    private static long afterDraws(long seed) {
        return next(next(next(next(seed))));
    }

    /** A drift of one time into Object arrays of 12 cells, and the cell that it must have changed. */
    private static String drawnPut(long seed) {
        long slot = next(seed) / 65536 % 6;
        long i = next(next(seed)) / 65536 % 12;
        long sort = next(next(next(seed))) / 65536 % 10;
        long u = afterDraws(seed) / 65536 % 256;
        long number = sort == 0 ? (u == 128 ? 0 : 1) : sort == 2 ? u - 128 & 65535 : sort == 8 ? u % 8 : sort == 9 ? 0 : u - 128;
        String cell = "cell(" + slot + ", " + i + ", ";
        return "seed(" + seed + ") = 0; drift(1) = 1; told(15) = " + afterDraws(seed) + ";"
            + cell + "0) = " + sort + ";" + cell + "1) = " + number + ";";
    }
}
