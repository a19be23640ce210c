/** Promises 12 to 20: lay, take, pick, put, pour, weigh, key, unkey, sheet. */
public final class DeedsTest {
    private DeedsTest() {
    }

    public static void main(String[] args) {
        lay();
        take();
        pick();
        putAsItIs();
        putBySort();
        putErrors();
        pour();
        weigh();
        key();
        unkey();
        sheet();
        failedCallsAreNoDeeds();
        Runs.finish();
    }

    private static void lay() {
        Runs.play("12", "lay(0, 0, 0) = 14; lay(0, 14, 12) = 0; lay(0, 13, 1) = 14; lay(0, 12, 0) = 13; lay(0, 11, 12) = 12",
            "lay(0, 10, 3) = 11; row(0, 1) = 3; lay(5, 4, 12) = 14; row(5, 1) = 12; told(14) = 7");
        Runs.play("12: errors", "lay(-1, 0, 0) = UNKNOWN; lay(6, 15, 13) = UNKNOWN; lay(0, 15, 0) = OUTSIDE",
            "lay(0, -1, 0) = OUTSIDE; lay(0, 0, 13) = OUTSIDE; lay(0, 0, -1) = OUTSIDE; lay(0, 14, 13) = OUTSIDE",
            "lay(0, 12, -1) = OUTSIDE; row(0, 0) = 14; told(14) = 0");
        for (int kind = 12; kind <= 14; kind++) {
            for (int n = 0; n <= 12; n++) {
                Runs.play("12: n has no effect", "lay(0, 4, 3); lay(0, " + kind + ", " + n + ") = 4; row(0, 0) = " + kind,
                    "row(0, 1) = " + (kind == 14 ? -1 : -2) + "; cell(0, 0, 0) = " + (kind == 14 ? -11 : -12) + "; told(11) = NONE");
            }
        }
        Runs.play("12: what was there is gone", Runs.filled(0, 9, 4, 1, 2, 3), "lay(0, 9, 3) = 9; cell(0, 1, 0) = 9",
            "lay(0, 4, 3) = 9;" + Runs.holds(0, 0, 0, 0));
    }

    private static void take() {
        Runs.play("13", "take(4, 3) = 9; take(9, 0) = 4; take(8, 0) = 9; take(8, 7) = 8; hand(1) = 7; told(14) = 4");
        Runs.play("13: errors", "take(-1, 0) = OUTSIDE; take(10, 0) = OUTSIDE; take(10, 9) = OUTSIDE; take(8, -1) = UNKNOWN",
            "take(8, 8) = UNKNOWN; take(8, 4294967296) = UNKNOWN; hand(0) = 9; told(14) = 0");
    }

    private static void pick() {
        Runs.play("14", Runs.filled(0, 1, 1, -3, 7), "pick(0, 0, 8) = 0; hand(0) = 1; hand(1) = -3; pick(0, 1, 7) = 0",
            "hand(0) = 7; hand(1) = 7; pick(0, 1, 2) = 4; hand(0) = 7; pick(0, 2, 8) = 3; pick(0, -1, 2) = 3",
            "pick(1, 0, 8) = 1; lay(1, 12, 1); pick(1, 9, 8) = 2; pick(1, 9, 3) = 2; hand(0) = 7");
        Runs.play("14: objects", Runs.filled(0, 9, 4, 5), "take(9, 0); pick(0, 0, 4) = 4; pick(0, 0, 8) = 0; hand(0) = 4",
            Runs.filled(1, 8, 4, 6), "pick(1, 0, 4) = 4; pick(1, 0, 8) = 0; hand(1) = 6; lay(2, 11, 1); pick(2, 0, 8) = 0",
            "hand(0) = 9");
        Runs.play("14: converted", Runs.filled(0, 5, 5, 16777217, 9007199254740993L), "pick(0, 0, 6) = 0; hand(1) = 16777216",
            "pick(0, 1, 7) = 0; hand(1) = 9007199254740992; pick(0, 1, 8) = 0; hand(1) = 9007199254740993");
        Runs.play("14: errors", "pick(-1, 0, 0) = UNKNOWN; pick(6, 0, 9) = UNKNOWN; pick(0, 0, 9) = OUTSIDE; pick(0, 0, -1) = OUTSIDE");
    }

    private static void putAsItIs() {
        String[] fitting = {"0", "1", "2", "13", "1234", "12345", "123456", "1234567", "49", "0123456789", "89", "89"};
        for (int kind = 0; kind < 12; kind++) {
            for (int sort = 0; sort <= 9; sort++) {
                int reason = fitting[kind].indexOf('0' + sort) >= 0 ? 0 : 4;
                Runs.play("15: kind " + kind, "lay(0, " + kind + ", 2); take(" + sort + ", 5)", "put(0, 1, 0) = " + reason,
                    "cell(0, 1, 0) = " + (kind < 8 ? kind : reason == 0 ? sort : 9), "cell(0, 0, 1) = 0");
            }
        }
        Runs.play("15: seals", "lay(0, 11, 1); take(8, 3); put(0, 0, 0) = 4; take(8, 4); put(0, 0, 0) = 0; take(9, 0)",
            "put(0, 0, 0) = 0; cell(0, 0, 0) = 9; lay(1, 10, 1); take(8, 3); put(1, 0, 0) = 0; cell(1, 0, 1) = 3");
        Runs.play("15: converted", "lay(0, 6, 1); take(5, 16777217); put(0, 0, 0) = 0; cell(0, 0, 0) = 6; cell(0, 0, 1) = 16777216",
            "hand(1) = 16777217; lay(1, 7, 1); put(1, 0, 0) = 0; cell(1, 0, 1) = 16777217");
    }

    private static void putBySort() {
        String[] fitting = {"0", "1", "2", "13", "1234", "12345", "123456", "1234567", "", "", "", ""};
        for (int kind = 0; kind < 12; kind++) {
            for (int sort = 0; sort <= 7; sort++) {
                int reason = fitting[kind].indexOf('0' + sort) >= 0 ? 0 : 4;
                Runs.play("15: by sort, kind " + kind, "lay(0, " + kind + ", 2); take(" + sort + ", 1)",
                    "put(0, 1, 1) = " + reason, "cell(0, 1, 1) = " + (reason == 0 ? 1 : 0));
            }
        }
    }

    private static void putErrors() {
        Runs.play("15: errors", "put(-1, 0, 0) = UNKNOWN; put(6, 0, 2) = UNKNOWN; put(0, 0, 2) = OUTSIDE; put(0, 0, -1) = OUTSIDE",
            "put(0, 0, 1) = NOT; take(8, 1); put(0, 0, 1) = NOT; put(0, 0, 2) = OUTSIDE; put(0, 0, 0) = 1");
        Runs.play("15: reasons", "take(4, 1); put(0, 0, 0) = 1; put(0, -1, 1) = 1; lay(0, 13, 1); put(0, 0, 0) = 2; put(0, -1, 1) = 2",
            "lay(0, 0, 2); put(0, 2, 0) = 3; put(0, -1, 1) = 3; put(0, 1, 0) = 4; put(0, 1, 1) = 4");
    }

    private static void pour() {
        Runs.play("16", Runs.filled(0, 1, 1, 1, 2, 3, 4), "lay(1, 5, 3); pour(0, 1, 1, 0, 3) = 3;" + Runs.holds(1, 2, 3, 4),
            "pour(0, 0, 1, 1, 12) = 2;" + Runs.holds(1, 2, 1, 2), "pour(0, 3, 1, 0, 2) = 1;" + Runs.holds(1, 4, 1, 2),
            "pour(1, 0, 0, 0, 3) = 0;" + Runs.holds(0, 1, 2, 3, 4), "pour(0, 0, 1, 0, 0) = 0; pour(0, 4, 1, 0, 1) = 0",
            "pour(0, -1, 1, 0, 1) = 0; pour(0, 0, 1, -1, 2) = 0; pour(2, 0, 1, 0, 1) = 0; pour(0, 0, 2, 0, 1) = 0");
        Runs.play("16: within a slot", Runs.filled(0, 4, 4, 1, 2, 3, 4), "pour(0, 0, 0, 1, 3) = 3;" + Runs.holds(0, 1, 1, 1, 1));
        Runs.play("16: downwards", Runs.filled(0, 4, 4, 1, 2, 3, 4), "pour(0, 1, 0, 0, 3) = 3;" + Runs.holds(0, 2, 3, 4, 4));
        Runs.play("16: until one does not fit", "lay(0, 9, 3); take(4, 7); put(0, 0, 0); put(0, 2, 0); lay(1, 4, 3)",
            "pour(0, 0, 1, 0, 3) = 1;" + Runs.holds(1, 7, 0, 0), "lay(2, 8, 3); pour(0, 0, 2, 0, 3) = 3; cell(2, 1, 0) = 9",
            "pour(2, 0, 1, 0, 1) = 1; pour(2, 1, 1, 0, 1) = 0; hand(0) = 4; told(14) = 10");
        Runs.play("16: the hand and what is read stay", Runs.filled(0, 1, 1, 7, 8), "lay(1, 9, 2); take(7, 3); pour(0, 0, 1, 0, 2) = 2",
            "hand(0) = 7; hand(1) = 3; cell(1, 0, 0) = 1;" + Runs.holds(0, 7, 8) + Runs.holds(1, 7, 8));
        Runs.play("16: twelve", Runs.filled(0, 2, 2, 1, 2, 3, 4, 5, 6, 7, 8, 9, 10, 11, 12), "lay(5, 7, 12); pour(0, 0, 5, 0, 12) = 12;"
            + Runs.holds(5, 1, 2, 3, 4, 5, 6, 7, 8, 9, 10, 11, 12), "pour(5, 0, 0, 0, 12) = 0; pour(0, 11, 5, 0, 12) = 1; cell(5, 0, 1) = 12",
            "pour(0, 0, 5, 11, 12) = 1; cell(5, 11, 1) = 1; pour(0, 0, 0, 1, 12) = 11;" + Runs.holds(0, 1, 1, 1, 1, 1, 1, 1, 1, 1, 1, 1, 1));
        Runs.play("16: as it is, into arrays of objects", Runs.filled(0, 4, 4, 5, 6) + Runs.filled(1, 3, 3, 7, 8), "lay(2, 8, 2)",
            "pour(0, 0, 2, 0, 2) = 2; cell(2, 0, 0) = 4; pour(1, 0, 2, 0, 2) = 0; cell(2, 0, 1) = 5; lay(3, 9, 2); pour(1, 0, 3, 0, 2) = 2",
            "cell(3, 0, 0) = 3; pour(3, 0, 0, 0, 2) = 2;" + Runs.holds(0, 7, 8), "pour(2, 0, 1, 0, 2) = 0;" + Runs.holds(1, 7, 8));
        Runs.play("16: seals among tags", Runs.filled(0, 10, 8, 4, 7, 3, 5), "lay(1, 11, 4); pour(0, 0, 1, 0, 4) = 2; cell(1, 1, 1) = 7",
            "cell(1, 2, 0) = 9; cell(1, 3, 0) = 9; pour(1, 1, 0, 2, 2) = 2; cell(0, 2, 1) = 7; cell(0, 3, 0) = 9");
        Runs.play("16: errors", "pour(-1, 0, 0, 0, 1) = UNKNOWN; pour(6, 0, 0, 0, 13) = UNKNOWN; pour(0, 0, 6, 0, 13) = UNKNOWN",
            "pour(0, 0, -1, 0, 1) = UNKNOWN; pour(0, 0, 0, 0, 13) = OUTSIDE; pour(0, 0, 0, 0, -1) = OUTSIDE; told(14) = 0",
            "pour(0, 2147483647, 0, -2147483648, 12) = 0; told(14) = 1");
    }

    private static void weigh() {
        Runs.play("17", "weigh(7, 1000) = 3; weigh(7, -1000) = 1000; tag(7, 1) = -2000; weigh(0, 1) = 0; tag(0, 1) = 1; told(14) = 3");
        Runs.play("17: errors", "weigh(-1, 0) = UNKNOWN; weigh(8, 1001) = UNKNOWN; weigh(0, 1001) = OUTSIDE",
            "weigh(0, -1001) = OUTSIDE; tag(0, 0) = 0; told(14) = 0");
    }

    private static void key() {
        Runs.play("18", "key(0, 8, 0) = 1; key(0, 8, 0) = 2; key(5, 0, 1) = 3; key(3, 4, 0) = 4; key(3, 4, 0) = FULL",
            "key(6, 0, 0) = UNKNOWN; key(0, 9, 0) = OUTSIDE; told(0) = 4; told(14) = 4; unkey() = 3; key(1, 1, 1) = 4");
        Runs.play("18: errors", "key(-1, 0, 0) = UNKNOWN; key(6, 9, 2) = UNKNOWN; key(0, 9, 0) = OUTSIDE; key(0, -1, 0) = OUTSIDE",
            "key(0, 0, 2) = OUTSIDE; key(0, 0, -1) = OUTSIDE; told(0) = 0");
    }

    private static void unkey() {
        Runs.play("19", "unkey() = NOT; key(0, 8, 0); key(1, 8, 0); unkey() = 1; keyAt(0, 0) = 0; keyAt(1, 0) = UNKNOWN",
            "unkey() = 0; unkey() = NOT; told(14) = 4");
    }

    private static void sheet() {
        Runs.play("20", "sheet(63) = 0; sheet(0) = 63; sheet(5) = 0; told(1) = 5; sheet(64) = OUTSIDE; sheet(-1) = OUTSIDE",
            "told(1) = 5; told(14) = 3");
    }

    private static void failedCallsAreNoDeeds() {
        Runs.play("deeds", "lay(0, 4, 2); told(14) = 1; take(4, 1); told(14) = 2; put(0, 0, 0); told(14) = 3; put(0, 2, 0) = 3",
            "told(14) = 3; pick(0, 2, 8) = 3; told(14) = 3; pick(0, 0, 8); told(14) = 4; pour(0, 0, 0, 0, 0) = 0; told(14) = 5",
            "weigh(0, 0); told(14) = 6; key(0, 8, 0); told(14) = 7; unkey(); told(14) = 8; sheet(0); told(14) = 9",
            "settle() = NOT; pass() = NOT; move(0, 0, 0) = UNKNOWN; part(0) = UNKNOWN; figure(0, 0) = NOT; deal(1) = NOT",
            "told(14) = 9; sheet(1); told(14) = 10; settle() = 0; told(14) = 11; pass() = 0; told(14) = 12; move(0, 0, 0) = 1",
            "told(14) = 13; part(0) = 2; told(14) = 14; deal(1) = 0; told(14) = 15; figure(0, 0) = 2; told(14) = 16");
    }
}
