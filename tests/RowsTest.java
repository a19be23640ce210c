/** Promises 1 to 7: a new object, told, row, cell, hand, tag, keyAt. */
public final class RowsTest {
    private RowsTest() {
    }

    public static void main(String[] args) {
        newObject();
        toldOfANewObject();
        toldOfOnePlaceAndOfNone();
        toldMeasures();
        toldKeysThatMatter();
        toldFewestKeys();
        toldExplanation();
        toldExplanationByEachSort();
        toldFitness();
        row();
        cell();
        hand();
        tag();
        keyAt();
        Runs.finish();
    }

    private static void newObject() {
        RowRanks x = Runs.play("1", "hand(0) = 9; hand(1) = 0; keyAt(0, 0) = UNKNOWN; undo(1) = NOT; seed(0) = 0");
        for (int slot = 0; slot < 6; slot++) {
            Runs.goOn(x, "1", "row(" + slot + ", 0) = 14; row(" + slot + ", 1) = -1");
        }
        for (int t = 0; t < 8; t++) {
            Runs.goOn(x, "1", "tag(" + t + ", 0) = " + t / 2);
        }
        Runs.play("1: images of a new object", "goBack(0) = NOT; goBack(1) = NOT; tear() = 0");
    }

    private static void toldOfANewObject() {
        RowRanks x = Runs.play("2", "told(0) = 0; told(1) = 0; told(12) = 0; told(14) = 0; told(15) = 0",
            "told(11) = NONE; told(13) = NONE; told(-1) = OUTSIDE; told(16) = OUTSIDE; told(-2147483648) = OUTSIDE");
        for (int what = 2; what <= 10; what++) {
            Runs.goOn(x, "2: not fit", "told(" + what + ") = NONE");
        }
    }

    private static void toldOfOnePlaceAndOfNone() {
        Runs.play("2: no place", "lay(0, 4, 0) = 14; key(0, 8, 0) = 1; key(0, 0, 1) = 2; told(2) = 0; told(3) = 0",
            "told(4) = 0; told(5) = 0; told(6) = 0; told(7) = 0; told(8) = 0; told(9) = 0; told(10) = 0",
            "told(11) = NONE; told(0) = 2");
        Runs.play("2: one place", "lay(0, 4, 1) = 14; key(0, 8, 0) = 1; told(2) = 1; told(3) = 0; told(4) = 0",
            "told(5) = 1; told(6) = 1; told(7) = 0; told(8) = 0; told(9) = 0; told(10) = 0; told(11) = NONE");
    }

    private static void toldMeasures() {
        // 4 3 3 5 1: the inversions are 43, 43, 41, 31, 31, 51.
        Runs.play("2: measures", Runs.filled(0, 4, 4, 4, 3, 3, 5, 1), "key(0, 8, 0) = 1; told(2) = 5; told(3) = 1",
            "told(4) = 6; told(5) = 3; told(6) = 3; told(7) = 2; told(8) = 4; told(9) = 1; told(10) = 1");
        Runs.play("2: measures of the descending key", Runs.filled(0, 4, 4, 4, 3, 3, 5, 1), "key(0, 8, 1) = 1",
            "told(3) = 1; told(4) = 3; told(5) = 2; told(6) = 4; told(7) = 3; told(8) = 3; told(9) = 1; told(10) = 1");
        Runs.play("2: two cycles", Runs.filled(0, 1, 1, 2, 1, 4, 3), "key(0, 8, 0) = 1; told(7) = 2; told(4) = 2",
            "told(5) = 3; told(6) = 2; told(8) = 1");
        Runs.play("2: twelve in reverse", Runs.filled(0, 4, 4, 12, 11, 10, 9, 8, 7, 6, 5, 4, 3, 2, 1), "key(0, 4, 0) = 1",
            "told(2) = 12; told(3) = 0; told(4) = 66; told(5) = 12; told(6) = 1; told(7) = 6; told(8) = 11");
        Runs.play("2: only a sheet", Runs.filled(1, 4, 4, 3, 2, 1), "sheet(2) = 0; told(1) = 2; told(2) = 3; told(3) = 3",
            "told(4) = 0; told(5) = 1; told(6) = 3; told(7) = 0; told(8) = 0; told(9) = 0; told(10) = 0; told(11) = 27");
    }

    private static void toldKeysThatMatter() {
        String columns = Runs.filled(0, 4, 4, 1, 1, 0, 0) + Runs.filled(1, 4, 4, 5, 4, 7, 6);
        Runs.play("2: both keys matter", columns, "key(0, 8, 0) = 1; key(1, 8, 0) = 2; told(9) = 3; told(10) = 3");
        Runs.play("2: the second key again", columns, "key(1, 8, 0) = 1; key(1, 8, 0) = 2; key(0, 8, 0) = 3",
            "told(9) = 0; told(10) = 1");
        Runs.play("2: the last key alone", columns, "key(0, 8, 1) = 1; key(1, 8, 0) = 2; told(9) = 2; told(10) = 2");
        Runs.play("2: asked before all else", columns, "key(0, 8, 0); key(1, 8, 0); told(10) = 3; sheet(4); told(10) = NONE; told(9) = NONE");
        Runs.play("2: no key is needed", Runs.filled(0, 4, 4, 1, 2, 3), "key(0, 8, 0) = 1; key(0, 5, 0) = 2",
            "told(9) = 0; told(10) = 0");
    }

    private static void toldFewestKeys() {
        // C is the order of A and B together, though of neither alone.
        String columns = Runs.filled(0, 4, 4, 1, 0, 1, 0) + Runs.filled(1, 4, 4, 1, 1, 0, 0) + Runs.filled(2, 4, 4, 3, 1, 2, 0);
        Runs.play("2: fewer keys before the least number", columns, "key(0, 8, 0); key(1, 8, 0); key(2, 8, 0); told(10) = 4; told(9) = 1");
        Runs.play("2: of several the least number", columns, "key(0, 8, 0); key(1, 8, 0); key(0, 8, 0); key(1, 8, 0); told(10) = 3; told(9) = 1");
        Runs.play("2: the later pair", columns, "key(0, 8, 0); key(0, 8, 1); key(0, 5, 0); key(1, 8, 0); told(10) = 9; told(9) = 9");
        Runs.play("2: in their sequence", columns, "key(1, 8, 0); key(0, 8, 0); key(1, 8, 0); told(10) = 3; told(9) = 3; told(3) = 0");
        Runs.play("2: each alone can be left out", columns, "key(2, 8, 0); key(2, 5, 0); key(2, 7, 0); key(2, 6, 0); told(9) = 0; told(10) = 1");
        Runs.play("2: all four", Runs.filled(0, 4, 4, 1, 1, 1, 1, 0), Runs.filled(1, 4, 4, 1, 1, 1, 0, 0), Runs.filled(2, 4, 4, 1, 1, 0, 0, 0),
            Runs.filled(3, 4, 4, 1, 0, 0, 0, 0), "key(0, 8, 0); key(1, 8, 0); key(2, 8, 0); key(3, 8, 0); told(9) = 15; told(10) = 15");
        Runs.play("2: the order, not who is less", Runs.filled(0, 4, 4, 1, 2, 3), Runs.filled(1, 4, 4, 3, 2, 1),
            "key(0, 8, 0); key(1, 8, 0); told(9) = 1; told(10) = 0; unkey(); told(9) = 0; unkey(); sheet(1); told(9) = 0; told(10) = 0");
    }

    private static void toldExplanationByEachSort() {
        String[] fitting = {"0", "134567", "24567", "34567", "4567", "567", "67", "7", "", "", "", ""};
        for (int slot = 0; slot < 6; slot++) {
            for (int kind = 0; kind <= 14; kind++) {
                int by = kind <= 7 ? fitting[kind].charAt(0) - '0' : 8;
                int due = kind <= 11 ? 18 * slot + 2 * by : -1;
                Runs.play("2: kind " + kind, "lay(" + slot + ", " + kind + ", 1); told(11) = NONE; lay(" + slot + ", " + kind + ", 0); told(11) = NONE",
                    "lay(" + slot + ", " + kind + ", 2); told(11) = " + due + "; lay(" + slot + ", " + kind + ", 12); told(11) = " + due);
                if (kind != 0 && kind <= 7) {
                    Runs.play("2: kind " + kind, Runs.filled(slot, kind, kind, 3, 2, 2), "told(11) = " + (due + 1));
                }
            }
        }
        Runs.play("2: booleans descend", Runs.filled(0, 0, 0, 1, 0), "told(11) = 1");
        Runs.play("2: the last cells", Runs.filled(0, 9, 4, 1, 2, 3, 3, 2), "told(11) = NONE; lay(1, 8, 2); told(11) = 34");
        Runs.play("2: objects", Runs.filled(0, 8, 4, 1, 2, 3), "told(11) = 16; take(9, 0); put(0, 2, 0); told(11) = NONE; put(0, 0, 0) = 0",
            "told(11) = NONE; take(4, 0); put(0, 2, 0); told(11) = NONE; put(0, 1, 0); told(11) = 16");
        Runs.play("2: tags descend by heft", Runs.filled(4, 10, 8, 7, 5, 4, 0), "told(11) = 89; weigh(0, 5); told(11) = NONE",
            "weigh(7, 2); told(11) = 88; weigh(4, 1); told(11) = NONE");
        Runs.play("2: chars as chars", Runs.filled(0, 2, 2, 65535, 0), "told(11) = 5");
        Runs.play("2: the later slot", Runs.filled(2, 4, 4, 2, 1, 3), Runs.filled(3, 4, 4, 2, 1, 0), "told(11) = 63; lay(1, 4, 2); told(11) = 26");
    }

    private static void toldExplanation() {
        Runs.play("2: the least key that explains", Runs.filled(2, 4, 4, 1, 2, 2), "told(11) = 44");
        Runs.play("2: descending", Runs.filled(2, 4, 4, 2, 2, 1), "told(11) = 45");
        Runs.play("2: no key explains", Runs.filled(2, 4, 4, 1, 3, 2), "told(11) = NONE");
        Runs.play("2: as doubles they are alike", Runs.filled(0, 5, 5, 9007199254740992L, 9007199254740993L, 5L),
            "told(11) = 13");
        Runs.play("2: an array of one cell explains nothing", "lay(0, 0, 1); lay(5, 9, 2) = 14; told(11) = 106");
        Runs.play("2: booleans", "lay(0, 0, 2); told(11) = 0");
    }

    private static void toldFitness() {
        Runs.play("2: different lengths", "lay(0, 4, 3); lay(1, 4, 2); key(0, 8, 0); told(2) = 3; sheet(2); told(2) = NONE",
            "sheet(1); told(2) = 3; sheet(4); told(2) = NONE; lay(2, 12, 3); told(2) = NONE; lay(2, 13, 3); told(2) = NONE",
            "lay(2, 11, 3); told(2) = 3");
        Runs.play("2: a key that cannot be read", "lay(0, 4, 3); key(0, 3, 0); told(2) = NONE; unkey(); told(2) = NONE",
            "key(0, 6, 0); told(2) = 3; lay(0, 8, 3); told(2) = NONE; lay(0, 8, 1); told(2) = NONE; lay(0, 8, 0); told(2) = 0");
        Runs.play("2: the book and the deeds", "lay(0, 4, 2); key(0, 8, 0); write(0, 0); write(1, 0); told(12) = 2",
            "told(13) = 1; told(14) = 2; seed(77); told(15) = 77");
    }

    private static void row() {
        RowRanks x = new RowRanks();
        for (int kind = 0; kind <= 14; kind++) {
            int size = kind <= 11 ? 7 : kind == 14 ? -1 : -2;
            Runs.goOn(x, "3", "lay(3, " + kind + ", 7); row(3, 0) = " + kind + "; row(3, 1) = " + size);
        }
        Runs.goOn(x, "3", "lay(5, 9, 12); row(5, 1) = 12; lay(5, 9, 0); row(5, 1) = 0; row(0, 1) = -1",
            "row(-1, 0) = UNKNOWN; row(6, 0) = UNKNOWN; row(0, -1) = OUTSIDE; row(0, 2) = OUTSIDE; row(6, 2) = UNKNOWN");
    }

    private static void cell() {
        Runs.play("4: reasons", "cell(0, 0, 0) = -11; cell(0, 0, 1) = 0; cell(0, -1, 0) = -11; lay(0, 12, 3)",
            "cell(0, 0, 0) = -12; cell(0, 0, 1) = 0; lay(0, 13, 3); cell(0, 9, 0) = -12; lay(0, 5, 3)",
            "cell(0, 3, 0) = -13; cell(0, -1, 0) = -13; cell(0, 3, 1) = 0; cell(0, 2147483647, 0) = -13",
            "cell(0, 2, 0) = 5; lay(0, 5, 0); cell(0, 0, 0) = -13");
        Runs.play("4: errors", "cell(-1, 0, 0) = UNKNOWN; cell(6, 0, 5) = UNKNOWN; cell(0, 0, 2) = OUTSIDE",
            "cell(0, 0, -1) = OUTSIDE");
        for (int kind = 0; kind <= 11; kind++) {
            Runs.play("4: at first", "lay(1, " + kind + ", 2); cell(1, 1, 0) = " + (kind < 8 ? kind : 9) + "; cell(1, 1, 1) = 0");
        }
        Runs.play("4: an array laid again is new", Runs.filled(0, 4, 4, 7, 8), "lay(0, 4, 2) = 4;" + Runs.holds(0, 0, 0));
        Runs.play("4: numbers", Runs.filled(0, 2, 2, -1), "cell(0, 0, 1) = 65535;",
            Runs.filled(1, 9, 8, 7), "cell(1, 0, 0) = 8; cell(1, 0, 1) = 7");
    }

    private static void hand() {
        Runs.play("5", "hand(-1) = OUTSIDE; hand(2) = OUTSIDE; take(0, 256) = 9; hand(0) = 0; hand(1) = 1; take(0, 0) = 0",
            "hand(1) = 0; take(1, 200) = 0; hand(1) = -56; take(2, -1) = 1; hand(1) = 65535; take(3, 32768) = 2",
            "hand(1) = -32768; take(4, 4294967295) = 3; hand(1) = -1; take(5, -9223372036854775808) = 4",
            "hand(1) = -9223372036854775808; take(6, 16777217) = 5; hand(1) = 16777216",
            "take(6, 9223372036854775807) = 6; hand(1) = 9223372036854775807; take(6, 9223372036854774000)",
            "hand(1) = 9223372036854775807; take(7, 9007199254740993) = 6; hand(1) = 9007199254740992",
            "take(7, -9223372036854775807) = 7; hand(1) = -9223372036854775808; take(8, 7) = 7; hand(0) = 8; hand(1) = 7",
            "take(9, 5) = 8; hand(0) = 9; hand(1) = 0");
    }

    private static void tag() {
        Runs.play("6", "tag(3, 0) = 1; tag(3, 1) = 1; tag(4, 0) = 2; tag(4, 1) = 4; tag(7, 1) = 6; tag(0, 2) = 0",
            "tag(-1, 0) = UNKNOWN; tag(8, 3) = UNKNOWN; tag(0, 3) = OUTSIDE; tag(0, -1) = OUTSIDE",
            "weigh(4, -1000); tag(4, 0) = -1000; tag(4, 1) = -2000; weigh(3, 1000); tag(3, 1) = 1000");
        Runs.play("6: cells that hold it", Runs.filled(0, 9, 8, 5, 5, 4), Runs.filled(5, 11, 8, 5, 6),
            Runs.filled(3, 10, 8, 1, 5), "tag(5, 2) = 4; tag(6, 2) = 1; tag(1, 2) = 1; tag(2, 2) = 0; take(8, 2)",
            "tag(2, 2) = 0; lay(0, 9, 3); tag(5, 2) = 2; take(4, 5); put(0, 0, 0) = 0; tag(5, 2) = 2");
    }

    private static void keyAt() {
        Runs.play("7", "keyAt(0, 0) = UNKNOWN; key(5, 8, 1); key(2, 0, 0); keyAt(0, 0) = 5; keyAt(0, 1) = 8; keyAt(0, 2) = 1",
            "keyAt(1, 0) = 2; keyAt(1, 1) = 0; keyAt(1, 2) = 0; keyAt(2, 0) = UNKNOWN; keyAt(-1, 0) = UNKNOWN",
            "keyAt(2, 9) = UNKNOWN; keyAt(1, 3) = OUTSIDE; keyAt(1, -1) = OUTSIDE; key(0, 1, 1); key(1, 7, 0)",
            "keyAt(3, 1) = 7; keyAt(4, 0) = UNKNOWN; unkey(); keyAt(3, 1) = UNKNOWN");
    }
}
