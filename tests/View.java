import java.util.ArrayList;
import java.util.Arrays;
import java.util.List;

/** All that can be asked of an object, so that two states can be compared as a whole. */
final class View {
    private View() {
    }

    /** What deeds change and images keep: slots, hand, weights, keys and sheet; 180 calls. */
    static List<Long> ofBench(RowRanks x) {
        List<Long> view = new ArrayList<>();
        for (int slot = 0; slot < 6; slot++) {
            add(view, x.row(slot, 0), x.row(slot, 1));
            for (int i = 0; i < 12; i++) {
                add(view, x.cell(slot, i, 0), x.cell(slot, i, 1));
            }
        }
        add(view, x.hand(0), x.hand(1));
        for (int t = 0; t < 8; t++) {
            add(view, x.tag(t, 0));
        }
        for (int k = 0; k < 4; k++) {
            add(view, x.keyAt(k, 0), x.keyAt(k, 1), x.keyAt(k, 2));
        }
        add(view, x.told(0), x.told(1));
        return view;
    }

    /** The bench, all that told tells, and the ranks of all places; 254 calls. */
    static List<Long> ofAll(RowRanks x) {
        List<Long> view = ofBench(x);
        for (int what = 2; what <= 15; what++) {
            add(view, x.told(what));
        }
        for (int p = 0; p < 12; p++) {
            for (int what = 0; what <= 4; what++) {
                add(view, x.rank(p, what));
            }
        }
        return view;
    }

    private static void add(List<Long> view, long... values) {
        Arrays.stream(values).forEach(view::add);
    }

    /** Finds a fault if two views differ. */
    static void same(String name, List<Long> got, List<Long> want) {
        Runs.due(name + ": all is as it is due", got.equals(want) ? 1 : 0, 1);
    }
}
