/** Promises 29 and 30: write and tear, and the entries that are wrong. */
public final class BookTest {
    private BookTest() {
    }

    public static void main(String[] args) {
        write();
        writeErrors();
        wrongEntries();
        tear();
        Runs.finish();
    }

    private static void write() {
        Runs.play("29", Runs.filled(0, 4, 4, 3, 1, 2), "key(0, 8, 0); write(0, 2) = 1; write(1, 0) = 2; write(2, 1) = 3; told(13) = NONE",
            "write(2, -5) = 4; told(13) = 3; write(2, 2147483647) = 5; told(13) = 3; told(12) = 5");
    }

    private static void writeErrors() {
        RowRanks x = Runs.play("29: errors", "write(0, 0) = UNKNOWN; lay(0, 4, 2); key(0, 8, 0); write(2, 0) = UNKNOWN; write(-1, 0) = UNKNOWN");
        for (int e = 1; e <= 20; e++) {
            Runs.goOn(x, "29", "write(1, 1) = " + e);
        }
        Runs.goOn(x, "29: full", "write(1, 1) = FULL; write(2, 1) = UNKNOWN; told(12) = 20; told(13) = NONE; sheet(2); write(0, 0) = UNKNOWN",
            "told(13) = 0; tear() = 20; told(12) = 0; told(13) = NONE; sheet(0); write(0, 0) = 1");
    }

    private static void wrongEntries() {
        Runs.play("29: wrong later", Runs.filled(0, 4, 4, 3, 1, 2), "key(0, 8, 0); write(1, 0); write(0, 2); told(13) = NONE; sheet(1)",
            "settle(); told(13) = 0; undo(1); told(13) = NONE; lay(0, 4, 1); told(13) = 0; lay(0, 4, 2); told(13) = 0",
            "lay(0, 14, 0); told(13) = 0");
        Runs.play("29: the first one", Runs.filled(0, 4, 4, 3, 1, 2), "key(0, 8, 0); write(1, 0); write(2, 1); write(0, 2); told(13) = NONE",
            "take(4, 0); put(0, 2, 0); told(13) = 0; take(4, 5); put(0, 2, 0); told(13) = 1; unkey(); sheet(1); told(13) = 0");
    }

    private static void tear() {
        Runs.play("30", "tear() = 0; lay(0, 4, 2); sheet(1); write(0, 1); write(1, 1); told(13) = 0; tear() = 2; told(12) = 0; told(13) = NONE",
            "tear() = 0; write(0, 0) = 1; told(13) = NONE; told(14) = 2");
    }
}
