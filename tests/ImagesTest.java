/** Promises 31 to 33: seed, keep, goBack. */
public final class ImagesTest {
    private static final String SCENE = Runs.filled(0, 4, 4, 3, 1, 2) + Runs.filled(1, 10, 8, 6, 5, 2)
        + "key(0, 8, 0) = 1; key(1, 8, 1) = 2; sheet(3) = 0; weigh(3, 77) = 1; seed(12) = 0;";
    private static final String SCENE_STANDS = Runs.holds(0, 3, 1, 2) + Runs.holds(1, 6, 5, 2)
        + "hand(0) = 8; hand(1) = 2; told(0) = 2; keyAt(0, 0) = 0; keyAt(1, 0) = 1; keyAt(1, 2) = 1; told(1) = 3; tag(3, 0) = 77;"
        + "told(15) = 12; row(2, 0) = 14; cell(1, 0, 0) = 8;";
    private static final String ALL_CHANGES = "settle(); lay(2, 3, 3); put(1, 0, 0); take(4, 1); put(0, 0, 0); unkey(); sheet(7);"
        + "weigh(3, 1); drift(3); key(3, 3, 1); key(4, 4, 0); lay(1, 12, 0);";

    private ImagesTest() {
    }

    public static void main(String[] args) {
        seed();
        keepAndGoBack();
        twoImages();
        theBookStays();
        errors();
        Runs.finish();
    }

    private static void seed() {
        Runs.play("31", "seed(2147483647) = 0; seed(0) = 2147483647; seed(7) = 0; told(15) = 7; seed(-1) = OUTSIDE",
            "seed(-2147483648) = OUTSIDE; told(15) = 7; told(14) = 0; seed(7) = 7");
        Runs.play("31: the greatest", "seed(2147483647) = 0; drift(1); told(15) = 1751031067; seed(1) = 1751031067");
    }

    private static void keepAndGoBack() {
        Runs.play("32, 33", SCENE, "keep(1) = 1", SCENE_STANDS, ALL_CHANGES, "goBack(1) = 1", SCENE_STANDS,
            "told(14) = 0; undo(1) = NOT", ALL_CHANGES, "goBack(1) = 1", SCENE_STANDS);
        Runs.play("32: a key in place of another", "key(1, 2, 1); keep(0); unkey(); key(3, 7, 0); goBack(0); keyAt(0, 0) = 1",
            "keyAt(0, 1) = 2; keyAt(0, 2) = 1; told(0) = 1");
        Runs.play("32: an image does not change", SCENE, "keep(0) = 1; goBack(0) = 1; take(4, 9); put(0, 0, 0); keep(1) = 1",
            "goBack(0) = 1", SCENE_STANDS, "goBack(1) = 1; cell(0, 0, 1) = 9; hand(1) = 9");
        Runs.play("32: a new object", "keep(0) = 1", SCENE, "goBack(0) = 1; row(0, 0) = 14; row(1, 1) = -1; told(0) = 0; told(1) = 0",
            "hand(0) = 9; tag(3, 0) = 1; told(15) = 0; told(11) = NONE");
    }

    private static void twoImages() {
        Runs.play("33: two images", "take(4, 1); keep(0) = 1; take(4, 2); keep(1) = 1; take(4, 3); goBack(0) = 1; hand(1) = 1",
            "goBack(1) = 1; hand(1) = 2; goBack(0) = 1; hand(1) = 1; take(4, 4); keep(0) = 1; goBack(1) = 1; hand(1) = 2",
            "goBack(0) = 1; hand(1) = 4");
    }

    private static void theBookStays() {
        Runs.play("33: the book", "lay(0, 4, 2); sheet(1); keep(0) = 1; write(0, 0); write(1, 0); goBack(0) = 1; told(12) = 2",
            "told(13) = 1; keep(1) = 1; told(12) = 2; tear() = 2; goBack(1) = 1; told(12) = 0");
        for (int i = 0; i <= 1; i++) {
            Runs.play("32: kept with entries in the book", "lay(0, 4, 2); sheet(1); keep(" + i + "); write(1, 1); write(0, 5); take(4, 9)",
                "put(0, 0, 0) = 0; keep(" + i + ") = 1; lay(0, 4, 2) = 4; take(1, 0) = 4; goBack(" + i + ") = 1; cell(0, 0, 1) = 9",
                "hand(0) = 4; hand(1) = 9; told(12) = 2; told(13) = 1");
        }
    }

    private static void errors() {
        Runs.play("32, 33: errors", "keep(-1) = UNKNOWN; keep(2) = UNKNOWN; goBack(-1) = UNKNOWN; goBack(2) = UNKNOWN; goBack(0) = NOT",
            "keep(0) = 1; goBack(1) = NOT; goBack(0) = 1");
    }
}
