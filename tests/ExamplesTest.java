/** The four examples of the document, word for word, each on a new object. */
public final class ExamplesTest {
    private ExamplesTest() {
    }

    public static void main(String[] args) {
        Runs.play("example 1", """
            lay(0, 4, 3) = 14; take(1, -5L) = 9; put(0, 1, 0) = 0; take(2, 65530L) = 1; put(0, 2, 1) = 0;
            cell(0, 2, 0) = 4; cell(0, 2, 1) = 65530; key(0, 8, 0) = 1; told(2) = 3; told(4) = 1; rank(0, 2) = 1;
            told(6) = 2; sheet(1) = 0; settle() = 2; cell(0, 0, 1) = -5; undo(1) = 7""");
        Runs.play("example 2", """
            lay(1, 10, 2) = 14; take(8, 5L) = 9; put(1, 0, 0) = 0; tag(5, 1) = 4; weigh(5, -7) = 2; tag(5, 1) = -14;
            key(1, 8, 1) = 1; compare(0, 1) = 0; put(1, 1, 1) = -1000000003; take(4, 3L) = 8; put(1, 1, 0) = 4;
            would(1, 0) = -1; told(11) = 35; lay(1, 13, 0) = 10; row(1, 1) = -2; told(3) = -1""");
        Runs.play("example 3", """
            lay(2, 9, 4) = 14; drift(12) = 0; told(15) = 1305165712; key(2, 8, 0) = 1; told(5) = 1; told(8) = 0;
            sheet(4) = 0; pass() = 0; move(0, 3, 2) = 1; part(1) = 4; deal(2) = 2; told(14) = 16; undo(3) = 13;
            write(0, 0) = 1; told(13) = -1; rank(4, 0) = -1000000001""");
        Runs.play("example 4", """
            lay(3, 5, 4) = 14; take(5, 77L) = 9; put(3, 0, 0) = 0; take(4, 12L) = 5; put(3, 2, 0) = 0; sheet(8) = 0;
            figure(3, 0) = 3; cell(3, 3, 1) = 77; below(3, 5, 0) = 2; below(3, 4, 1) = -1; pick(3, 0, 6) = 0;
            hand(0) = 6; pour(3, 0, 3, 1, 3) = 3; cell(3, 3, 1) = 0; keep(0) = 1; goBack(1) = -1000000003""");
        Runs.finish();
    }
}
