/** The four examples of the document, each on a new object. */
public final class ExamplesTest {
    private static int wrong = 0;

    private static void due(String call, long got, long want) {
        if (got != want) {
            wrong++;
            System.out.println(call + " answered " + got + ", due is " + want);
        }
    }

    public static void main(String[] args) {
        widenedValues();
        tags();
        allAlike();
        radixStep();
        System.out.println(wrong == 0 ? "all answers are as due" : wrong + " answers are not as due");
        System.exit(wrong == 0 ? 0 : 1);
    }

    private static void widenedValues() {
        RowRanks x = new RowRanks();
        due("1: lay(0, 4, 3)", x.lay(0, 4, 3), 14);
        due("1: take(1, -5)", x.take(1, -5L), 9);
        due("1: put(0, 1, 0)", x.put(0, 1, 0), 0);
        due("1: take(2, 65530)", x.take(2, 65530L), 1);
        due("1: put(0, 2, 1)", x.put(0, 2, 1), 0);
        due("1: cell(0, 2, 0)", x.cell(0, 2, 0), 4);
        due("1: cell(0, 2, 1)", x.cell(0, 2, 1), 65530);
        due("1: key(0, 8, 0)", x.key(0, 8, 0), 1);
        due("1: told(2)", x.told(2), 3);
        due("1: told(4)", x.told(4), 1);
        due("1: rank(0, 2)", x.rank(0, 2), 1);
        due("1: told(6)", x.told(6), 2);
        due("1: sheet(1)", x.sheet(1), 0);
        due("1: settle()", x.settle(), 2);
        due("1: cell(0, 0, 1)", x.cell(0, 0, 1), -5);
        due("1: undo(1)", x.undo(1), 7);
    }

    private static void tags() {
        RowRanks x = new RowRanks();
        due("2: lay(1, 10, 2)", x.lay(1, 10, 2), 14);
        due("2: take(8, 5)", x.take(8, 5L), 9);
        due("2: put(1, 0, 0)", x.put(1, 0, 0), 0);
        due("2: tag(5, 1)", x.tag(5, 1), 4);
        due("2: weigh(5, -7)", x.weigh(5, -7), 2);
        due("2: tag(5, 1)", x.tag(5, 1), -14);
        due("2: key(1, 8, 1)", x.key(1, 8, 1), 1);
        due("2: compare(0, 1)", x.compare(0, 1), 0);
        due("2: put(1, 1, 1)", x.put(1, 1, 1), -1000000003);
        due("2: take(4, 3)", x.take(4, 3L), 8);
        due("2: put(1, 1, 0)", x.put(1, 1, 0), 4);
        due("2: would(1, 0)", x.would(1, 0), -1);
        due("2: told(11)", x.told(11), 35);
        due("2: lay(1, 13, 0)", x.lay(1, 13, 0), 10);
        due("2: row(1, 1)", x.row(1, 1), -2);
        due("2: told(3)", x.told(3), -1);
    }

    private static void allAlike() {
        RowRanks x = new RowRanks();
        due("3: lay(2, 9, 4)", x.lay(2, 9, 4), 14);
        due("3: drift(12)", x.drift(12), 0);
        due("3: told(15)", x.told(15), 1305165712);
        due("3: key(2, 8, 0)", x.key(2, 8, 0), 1);
        due("3: told(5)", x.told(5), 1);
        due("3: told(8)", x.told(8), 0);
        due("3: sheet(4)", x.sheet(4), 0);
        due("3: pass()", x.pass(), 0);
        due("3: move(0, 3, 2)", x.move(0, 3, 2), 1);
        due("3: part(1)", x.part(1), 4);
        due("3: deal(2)", x.deal(2), 2);
        due("3: told(14)", x.told(14), 16);
        due("3: undo(3)", x.undo(3), 13);
        due("3: write(0, 0)", x.write(0, 0), 1);
        due("3: told(13)", x.told(13), -1);
        due("3: rank(4, 0)", x.rank(4, 0), -1000000001);
    }

    private static void radixStep() {
        RowRanks x = new RowRanks();
        due("4: lay(3, 5, 4)", x.lay(3, 5, 4), 14);
        due("4: take(5, 77)", x.take(5, 77L), 9);
        due("4: put(3, 0, 0)", x.put(3, 0, 0), 0);
        due("4: take(4, 12)", x.take(4, 12L), 5);
        due("4: put(3, 2, 0)", x.put(3, 2, 0), 0);
        due("4: sheet(8)", x.sheet(8), 0);
        due("4: figure(3, 0)", x.figure(3, 0), 3);
        due("4: cell(3, 3, 1)", x.cell(3, 3, 1), 77);
        due("4: below(3, 5, 0)", x.below(3, 5, 0), 2);
        due("4: below(3, 4, 1)", x.below(3, 4, 1), -1);
        due("4: pick(3, 0, 6)", x.pick(3, 0, 6), 0);
        due("4: hand(0)", x.hand(0), 6);
        due("4: pour(3, 0, 3, 1, 3)", x.pour(3, 0, 3, 1, 3), 3);
        due("4: cell(3, 3, 1)", x.cell(3, 3, 1), 0);
        due("4: keep(0)", x.keep(0), 1);
        due("4: goBack(1)", x.goBack(1), -1000000003);
    }
}
