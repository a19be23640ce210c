import java.lang.reflect.Array;
import java.util.ArrayList;
import java.util.List;

/**
 * The document told a second time, by other means than the class: with real arrays, java.lang.reflect.Array,
 * whole copies of the state and the definitions of the measures taken at their word. It may throw; it is slow.
 */
final class Model {
    static final int NONE = -1, UNKNOWN = -1000000001, OUTSIDE = -1000000002, NOT = -1000000003, FULL = -1000000004;

    private static class Tag {
        final int index;

        Tag(int index) {
            this.index = index;
        }
    }

    private static final class Seal extends Tag {
        Seal(int index) {
            super(index);
        }
    }

    private record Key(int slot, int by, int way) { }

    private static final class State {
        Object[] slots = new Object[6];
        Object hand;
        int[] weights = {0, 0, 1, 1, 2, 2, 3, 3};
        List<Key> keys = new ArrayList<>();
        int sheet;

        State copy() {
            State other = new State();
            for (int s = 0; s < 6; s++) {
                other.slots[s] = copyOf(slots[s]);
            }
            other.hand = hand;
            other.weights = weights.clone();
            other.keys = new ArrayList<>(keys);
            other.sheet = sheet;
            return other;
        }

        private static Object copyOf(Object slot) {
            if (slot == null || !slot.getClass().isArray()) {
                return slot;
            }
            Object array = Array.newInstance(slot.getClass().getComponentType(), Array.getLength(slot));
            System.arraycopy(slot, 0, array, 0, Array.getLength(slot));
            return array;
        }
    }

    private static final Class<?>[] KINDS = {boolean.class, byte.class, char.class, short.class, int.class, long.class,
        float.class, double.class, Integer.class, Object.class, Tag.class, Seal.class};
    private static final Class<?>[] BOXES = {Boolean.class, Byte.class, Character.class, Short.class, Integer.class,
        Long.class, Float.class, Double.class};

    private final Tag[] tags = new Tag[8];
    private State state = new State();
    private final List<State> undos = new ArrayList<>();
    private final List<int[]> book = new ArrayList<>();
    private final State[] images = new State[2];
    private final long[] imageRandoms = new long[2];
    private long random;

    Model() {
        for (int t = 0; t < 8; t++) {
            tags[t] = t < 4 ? new Tag(t) : new Seal(t);
        }
    }

    // ---- values

    private Object make(int sort, long v) {
        switch (sort) {
            case 0: return v != 0;
            case 1: return (byte) v;
            case 2: return (char) v;
            case 3: return (short) v;
            case 4: return (int) v;
            case 5: return v;
            case 6: return (float) v;
            case 7: return (double) v;
            case 8: return tags[(int) v];
            default: return null;
        }
    }

    private static int sortOf(Object value) {
        if (value == null) {
            return 9;
        }
        for (int sort = 0; sort < 8; sort++) {
            if (BOXES[sort] == value.getClass()) {
                return sort;
            }
        }
        return 8;
    }

    private static long numberOf(Object value) {
        if (value == null) {
            return 0;
        }
        if (value instanceof Boolean) {
            return (Boolean) value ? 1 : 0;
        }
        if (value instanceof Character) {
            return (Character) value;
        }
        if (value instanceof Tag) {
            return ((Tag) value).index;
        }
        return ((Number) value).longValue();
    }

    private int heftOf(Tag tag) {
        return tag instanceof Seal ? 2 * state.weights[tag.index] : state.weights[tag.index];
    }

    private int compareValues(Object a, Object b) {
        int sortA = sortOf(a) == 9 ? -1 : sortOf(a);
        int sortB = sortOf(b) == 9 ? -1 : sortOf(b);
        if (sortA != sortB) {
            return sortA - sortB;
        }
        switch (sortA) {
            case -1: return 0;
            case 6: return Float.compare((Float) a, (Float) b);
            case 7: return Double.compare((Double) a, (Double) b);
            case 8: return heftOf((Tag) a) - heftOf((Tag) b);
            default: return Long.compare(numberOf(a), numberOf(b));
        }
    }

    // ---- slots

    private int kindOf(int slot) {
        Object held = state.slots[slot];
        if (held == null) {
            return 14;
        }
        if (held instanceof String) {
            return 13;
        }
        for (int kind = 0; kind < 12; kind++) {
            if (held.getClass().isArray() && held.getClass().getComponentType() == KINDS[kind]) {
                return kind;
            }
        }
        return 12;
    }

    private boolean isArray(int slot) {
        return kindOf(slot) < 12;
    }

    private int sizeOf(int slot) {
        return Array.getLength(state.slots[slot]);
    }

    /** Reads by means of java.lang.reflect.Array, which throws if the cell cannot be read so. */
    private static Object readBy(Object array, int i, int by) {
        switch (by) {
            case 0: return Array.getBoolean(array, i);
            case 1: return Array.getByte(array, i);
            case 2: return Array.getChar(array, i);
            case 3: return Array.getShort(array, i);
            case 4: return Array.getInt(array, i);
            case 5: return Array.getLong(array, i);
            case 6: return Array.getFloat(array, i);
            case 7: return Array.getDouble(array, i);
            default: return Array.get(array, i);
        }
    }

    private static void putBySort(Object array, int i, Object value) {
        switch (sortOf(value)) {
            case 0: Array.setBoolean(array, i, (Boolean) value); break;
            case 1: Array.setByte(array, i, (Byte) value); break;
            case 2: Array.setChar(array, i, (Character) value); break;
            case 3: Array.setShort(array, i, (Short) value); break;
            case 4: Array.setInt(array, i, (Integer) value); break;
            case 5: Array.setLong(array, i, (Long) value); break;
            case 6: Array.setFloat(array, i, (Float) value); break;
            default: Array.setDouble(array, i, (Double) value); break;
        }
    }

    private int reasonOfReach(int slot, int i) {
        if (kindOf(slot) == 14) {
            return 1;
        }
        if (!isArray(slot)) {
            return 2;
        }
        return i < 0 || i >= sizeOf(slot) ? 3 : 0;
    }

    private int reasonToRead(int slot, int i, int by) {
        int reason = reasonOfReach(slot, i);
        if (reason != 0) {
            return reason;
        }
        try {
            readBy(state.slots[slot], i, by);
            return 0;
        } catch (RuntimeException refused) {
            return 4;
        }
    }

    private int tryPut(int slot, int i, Object value, int how) {
        int reason = reasonOfReach(slot, i);
        if (reason != 0) {
            return reason;
        }
        try {
            if (how == 1) {
                putBySort(state.slots[slot], i, value);
            } else {
                Array.set(state.slots[slot], i, value);
            }
            return 0;
        } catch (RuntimeException refused) {
            return 4;
        }
    }

    private boolean canReadAll(int slot, int by) {
        for (int i = 0; i < sizeOf(slot); i++) {
            if (reasonToRead(slot, i, by) != 0) {
                return false;
            }
        }
        return true;
    }

    // ---- order

    private int length() {
        boolean[] concerned = new boolean[6];
        for (int s = 0; s < 6; s++) {
            concerned[s] = (state.sheet & 1 << s) != 0;
        }
        for (Key key : state.keys) {
            concerned[key.slot] = true;
        }
        int length = NONE;
        for (int s = 0; s < 6; s++) {
            if (concerned[s] && (!isArray(s) || length != NONE && sizeOf(s) != length)) {
                return NONE;
            }
            length = concerned[s] ? sizeOf(s) : length;
        }
        for (Key key : state.keys) {
            if (length > 0 && !canReadAll(key.slot, key.by)) {
                return NONE;
            }
        }
        return length;
    }

    private boolean isPlace(int p) {
        return p >= 0 && p < length();
    }

    private int compareByKey(Key key, int a, int b) {
        Object array = state.slots[key.slot];
        int comparison = compareValues(readBy(array, a, key.by), readBy(array, b, key.by));
        return key.way == 0 ? comparison : -comparison;
    }

    private int comparePlaces(List<Key> keys, int a, int b) {
        for (Key key : keys) {
            int comparison = compareByKey(key, a, b);
            if (comparison != 0) {
                return comparison;
            }
        }
        return 0;
    }

    private boolean less(int a, int b) {
        return comparePlaces(state.keys, a, b) < 0;
    }

    private List<Integer> order(List<Key> keys) {
        List<Integer> order = new ArrayList<>();
        for (int p = 0; p < length(); p++) {
            order.add(p);
        }
        order.sort((a, b) -> comparePlaces(keys, a, b));
        return order;
    }

    // ---- rows

    int told(int what) {
        if (what < 0 || what > 15) {
            return OUTSIDE;
        }
        int length = length();
        if (what >= 2 && what <= 10 && length == NONE) {
            return NONE;
        }
        switch (what) {
            case 0: return state.keys.size();
            case 1: return state.sheet;
            case 2: return length;
            case 3: return pairs(length, false);
            case 4: return pairs(length, true);
            case 5: return leastSections(length);
            case 6: return longestChoice(length);
            case 7: return exchanges();
            case 8: return bubblePasses(length);
            case 9: return keysThatChange();
            case 10: return fewestKeys();
            case 11: return explanation();
            case 12: return book.size();
            case 13: return firstWrong();
            case 14: return undos.size();
            default: return (int) random;
        }
    }

    private int pairs(int length, boolean inverted) {
        int count = 0;
        for (int a = 0; a < length; a++) {
            for (int b = a + 1; b < length; b++) {
                boolean counts = inverted ? less(b, a) : !less(a, b) && !less(b, a);
                count += counts ? 1 : 0;
            }
        }
        return count;
    }

    private boolean hasInversion(int first, int last) {
        for (int a = first; a <= last; a++) {
            for (int b = a + 1; b <= last; b++) {
                if (less(b, a)) {
                    return true;
                }
            }
        }
        return false;
    }

    private int leastSections(int length) {
        int[] least = new int[length + 1];
        for (int end = 1; end <= length; end++) {
            least[end] = end;
            for (int start = 0; start < end; start++) {
                if (!hasInversion(start, end - 1)) {
                    least[end] = Math.min(least[end], least[start] + 1);
                }
            }
        }
        return least[length];
    }

    private int longestChoice(int length) {
        boolean[][] inverted = new boolean[length][length];
        for (int a = 0; a < length; a++) {
            for (int b = a + 1; b < length; b++) {
                inverted[a][b] = less(b, a);
            }
        }
        int best = 0;
        for (int set = 0; set < 1 << length; set++) {
            if (Integer.bitCount(set) > best && isSorted(set, inverted)) {
                best = Integer.bitCount(set);
            }
        }
        return best;
    }

    private static boolean isSorted(int set, boolean[][] inverted) {
        for (int a = 0; a < inverted.length; a++) {
            for (int b = a + 1; b < inverted.length; b++) {
                if ((set & 1 << a) != 0 && (set & 1 << b) != 0 && inverted[a][b]) {
                    return false;
                }
            }
        }
        return true;
    }

    /** Each exchange that brings one place to its position is needed. */
    private int exchanges() {
        List<Integer> order = order(state.keys);
        int count = 0;
        for (int p = 0; p < order.size(); p++) {
            while (order.get(p) != p) {
                int other = order.get(p);
                order.set(p, order.get(other));
                order.set(other, other);
                count++;
            }
        }
        return count;
    }

    private int bubblePasses(int length) {
        List<Integer> row = new ArrayList<>();
        for (int p = 0; p < length; p++) {
            row.add(p);
        }
        int passes = 0;
        boolean changed = true;
        while (changed) {
            changed = false;
            for (int i = 0; i + 1 < length; i++) {
                if (less(row.get(i + 1), row.get(i))) {
                    int greater = row.get(i);
                    row.set(i, row.get(i + 1));
                    row.set(i + 1, greater);
                    changed = true;
                }
            }
            passes += changed ? 1 : 0;
        }
        return passes;
    }

    private int keysThatChange() {
        int set = 0;
        for (int k = 0; k < state.keys.size(); k++) {
            List<Key> others = new ArrayList<>(state.keys);
            others.remove(k);
            set += order(others).equals(order(state.keys)) ? 0 : 1 << k;
        }
        return set;
    }

    private int fewestKeys() {
        for (int size = 0; size <= state.keys.size(); size++) {
            for (int set = 0; set < 1 << state.keys.size(); set++) {
                List<Key> some = new ArrayList<>();
                for (int k = 0; k < state.keys.size(); k++) {
                    if ((set & 1 << k) != 0) {
                        some.add(state.keys.get(k));
                    }
                }
                if (some.size() == size && order(some).equals(order(state.keys))) {
                    return set;
                }
            }
        }
        throw new IllegalStateException("all keys give their own order");
    }

    private int explanation() {
        int least = Integer.MAX_VALUE;
        for (int slot = 0; slot < 6; slot++) {
            for (int by = 0; by <= 8; by++) {
                for (int way = 0; way <= 1; way++) {
                    if (isArray(slot) && sizeOf(slot) >= 2 && canReadAll(slot, by)
                            && isSortedBy(new Key(slot, by, way))) {
                        least = Math.min(least, 18 * slot + 2 * by + way);
                    }
                }
            }
        }
        return least == Integer.MAX_VALUE ? NONE : least;
    }

    private boolean isSortedBy(Key key) {
        for (int i = 1; i < sizeOf(key.slot); i++) {
            if (compareByKey(key, i, i - 1) < 0) {
                return false;
            }
        }
        return true;
    }

    private int firstWrong() {
        List<Integer> order = order(state.keys);
        for (int e = 0; e < book.size(); e++) {
            int p = book.get(e)[0];
            if (!isPlace(p) || order.indexOf(p) != book.get(e)[1]) {
                return e;
            }
        }
        return NONE;
    }

    int row(int slot, int what) {
        if (slot < 0 || slot > 5) {
            return UNKNOWN;
        }
        if (what < 0 || what > 1) {
            return OUTSIDE;
        }
        if (what == 0) {
            return kindOf(slot);
        }
        return kindOf(slot) == 14 ? -1 : isArray(slot) ? sizeOf(slot) : -2;
    }

    long cell(int slot, int i, int what) {
        if (slot < 0 || slot > 5) {
            return UNKNOWN;
        }
        if (what < 0 || what > 1) {
            return OUTSIDE;
        }
        int reason = reasonToRead(slot, i, 8);
        if (reason != 0) {
            return what == 0 ? -10 - reason : 0;
        }
        Object value = readBy(state.slots[slot], i, 8);
        return what == 0 ? sortOf(value) : numberOf(value);
    }

    long hand(int what) {
        if (what < 0 || what > 1) {
            return OUTSIDE;
        }
        return what == 0 ? sortOf(state.hand) : numberOf(state.hand);
    }

    int tag(int t, int what) {
        if (t < 0 || t > 7) {
            return UNKNOWN;
        }
        switch (what) {
            case 0: return state.weights[t];
            case 1: return heftOf(tags[t]);
            case 2: return cellsHolding(tags[t]);
            default: return OUTSIDE;
        }
    }

    private int cellsHolding(Tag tag) {
        int count = 0;
        for (int slot = 0; slot < 6; slot++) {
            for (int i = 0; isArray(slot) && i < sizeOf(slot); i++) {
                count += readBy(state.slots[slot], i, 8) == tag ? 1 : 0;
            }
        }
        return count;
    }

    int keyAt(int k, int what) {
        if (k < 0 || k >= state.keys.size()) {
            return UNKNOWN;
        }
        Key key = state.keys.get(k);
        switch (what) {
            case 0: return key.slot;
            case 1: return key.by;
            case 2: return key.way;
            default: return OUTSIDE;
        }
    }

    // ---- order

    int rank(int p, int what) {
        if (!isPlace(p)) {
            return UNKNOWN;
        }
        List<Integer> order = order(state.keys);
        switch (what) {
            case 0: return placesLessThan(p);
            case 1: return classesLessThan(p, order);
            case 2: return order.indexOf(p);
            case 3: return placesAlike(p);
            case 4: return order.get(p);
            default: return OUTSIDE;
        }
    }

    private int placesLessThan(int p) {
        int count = 0;
        for (int q = 0; q < length(); q++) {
            count += less(q, p) ? 1 : 0;
        }
        return count;
    }

    private int classesLessThan(int p, List<Integer> order) {
        int count = 0;
        for (int k = 1; k <= order.indexOf(p); k++) {
            count += less(order.get(k - 1), order.get(k)) ? 1 : 0;
        }
        return count;
    }

    private int placesAlike(int p) {
        int count = 0;
        for (int q = 0; q < length(); q++) {
            count += !less(q, p) && !less(p, q) ? 1 : 0;
        }
        return count;
    }

    int compare(int a, int b) {
        if (!isPlace(a) || !isPlace(b)) {
            return UNKNOWN;
        }
        return less(a, b) ? 0 : less(b, a) ? 2 : 1;
    }

    int below(int slot, int by, int what) {
        if (slot < 0 || slot > 5) {
            return UNKNOWN;
        }
        if (by < 0 || by > 8 || what < 0 || what > 1) {
            return OUTSIDE;
        }
        if (!isArray(slot) || !canReadAll(slot, by)) {
            return NONE;
        }
        Object wanted = state.hand;
        if (by < 8) {
            Object one = Array.newInstance(KINDS[by], 1);
            try {
                Array.set(one, 0, state.hand);
            } catch (RuntimeException refused) {
                return NONE;
            }
            wanted = Array.get(one, 0);
        }
        int count = 0;
        for (int i = 0; i < sizeOf(slot); i++) {
            int comparison = compareValues(readBy(state.slots[slot], i, by), wanted);
            count += (what == 0 ? comparison < 0 : comparison == 0) ? 1 : 0;
        }
        return count;
    }

    int would(int slot, int p) {
        if (slot < 0 || slot > 5) {
            return UNKNOWN;
        }
        State now = state;
        state = state.copy();
        int answer = NONE;
        if (isPlace(p) && tryPut(slot, p, state.hand, 0) == 0 && isPlace(p)) {
            answer = placesLessThan(p);
        }
        state = now;
        return answer;
    }

    // ---- deeds

    private void begin() {
        undos.add(state.copy());
        if (undos.size() > 16) {
            undos.remove(0);
        }
    }

    int lay(int slot, int kind, int n) {
        if (slot < 0 || slot > 5) {
            return UNKNOWN;
        }
        if (kind < 0 || kind > 14 || n < 0 || n > 12) {
            return OUTSIDE;
        }
        int before = kindOf(slot);
        begin();
        Object[] noArrays = {new StringBuilder(), "text", null};
        state.slots[slot] = kind < 12 ? Array.newInstance(KINDS[kind], n) : noArrays[kind - 12];
        return before;
    }

    int take(int sort, long v) {
        if (sort < 0 || sort > 9) {
            return OUTSIDE;
        }
        if (sort == 8 && (v < 0 || v > 7)) {
            return UNKNOWN;
        }
        int before = sortOf(state.hand);
        begin();
        state.hand = make(sort, v);
        return before;
    }

    int pick(int slot, int i, int by) {
        if (slot < 0 || slot > 5) {
            return UNKNOWN;
        }
        if (by < 0 || by > 8) {
            return OUTSIDE;
        }
        int reason = reasonToRead(slot, i, by);
        if (reason == 0) {
            begin();
            state.hand = readBy(state.slots[slot], i, by);
        }
        return reason;
    }

    int put(int slot, int i, int how) {
        if (slot < 0 || slot > 5) {
            return UNKNOWN;
        }
        if (how < 0 || how > 1) {
            return OUTSIDE;
        }
        if (how == 1 && sortOf(state.hand) >= 8) {
            return NOT;
        }
        State before = state.copy();
        int reason = tryPut(slot, i, state.hand, how);
        if (reason == 0) {
            State after = state;
            state = before;
            begin();
            state = after;
        }
        return reason;
    }

    int pour(int a, int i, int c, int j, int n) {
        if (a < 0 || a > 5 || c < 0 || c > 5) {
            return UNKNOWN;
        }
        if (n < 0 || n > 12) {
            return OUTSIDE;
        }
        begin();
        for (int copied = 0; copied < n; copied++) {
            if (reasonToRead(a, i + copied, 8) != 0
                    || tryPut(c, j + copied, readBy(state.slots[a], i + copied, 8), 0) != 0) {
                return copied;
            }
        }
        return n;
    }

    int weigh(int t, int w) {
        if (t < 0 || t > 7) {
            return UNKNOWN;
        }
        if (w < -1000 || w > 1000) {
            return OUTSIDE;
        }
        begin();
        int before = state.weights[t];
        state.weights[t] = w;
        return before;
    }

    int key(int slot, int by, int way) {
        if (slot < 0 || slot > 5) {
            return UNKNOWN;
        }
        if (by < 0 || by > 8 || way < 0 || way > 1) {
            return OUTSIDE;
        }
        if (state.keys.size() == 4) {
            return FULL;
        }
        begin();
        state.keys.add(new Key(slot, by, way));
        return state.keys.size();
    }

    int unkey() {
        if (state.keys.isEmpty()) {
            return NOT;
        }
        begin();
        state.keys.remove(state.keys.size() - 1);
        return state.keys.size();
    }

    int sheet(int set) {
        if (set < 0 || set > 63) {
            return OUTSIDE;
        }
        begin();
        int before = state.sheet;
        state.sheet = set;
        return before;
    }

    private int rearrange(List<Integer> from) {
        begin();
        for (int s = 0; s < 6; s++) {
            if ((state.sheet & 1 << s) != 0) {
                Object old = State.copyOf(state.slots[s]);
                for (int p = 0; p < from.size(); p++) {
                    System.arraycopy(old, from.get(p), state.slots[s], p, 1);
                }
            }
        }
        int moved = 0;
        for (int p = 0; p < from.size(); p++) {
            moved += from.get(p) == p ? 0 : 1;
        }
        return moved;
    }

    private List<Integer> allPlaces() {
        List<Integer> places = new ArrayList<>();
        for (int p = 0; p < length(); p++) {
            places.add(p);
        }
        return places;
    }

    int settle() {
        return length() == NONE ? NOT : rearrange(order(state.keys));
    }

    int pass() {
        if (length() == NONE) {
            return NOT;
        }
        int exchanges = 0;
        State before = state.copy();
        List<State> undosBefore = new ArrayList<>(undos);
        for (int p = 0; p + 1 < length(); p++) {
            if (less(p + 1, p)) {
                List<Integer> from = allPlaces();
                from.set(p, p + 1);
                from.set(p + 1, p);
                rearrange(from);
                exchanges++;
            }
        }
        State after = state;
        undos.clear();
        undos.addAll(undosBefore);
        state = before;
        begin();
        state = after;
        return exchanges;
    }

    int move(int a, int b, int how) {
        if (!isPlace(a) || !isPlace(b)) {
            return UNKNOWN;
        }
        if (how < 0 || how > 2) {
            return OUTSIDE;
        }
        List<Integer> from = allPlaces();
        if (how == 0) {
            from.set(a, b);
            from.set(b, a);
        } else if (how == 1) {
            java.util.Collections.reverse(from.subList(Math.min(a, b), Math.max(a, b) + 1));
        } else {
            from.add(b, from.remove(a));
        }
        rearrange(from);
        return 1;
    }

    int part(int p) {
        if (!isPlace(p)) {
            return UNKNOWN;
        }
        List<Integer> from = new ArrayList<>();
        for (int q : allPlaces()) {
            if (less(q, p)) {
                from.add(q);
            }
        }
        int answer = 100 * from.size();
        for (int q : allPlaces()) {
            if (!less(q, p) && !less(p, q)) {
                from.add(q);
                answer++;
            }
        }
        for (int q : allPlaces()) {
            if (less(p, q)) {
                from.add(q);
            }
        }
        rearrange(from);
        return answer;
    }

    int figure(int slot, int f) {
        if (slot < 0 || slot > 5) {
            return UNKNOWN;
        }
        if (f < 0 || f > 20) {
            return OUTSIDE;
        }
        if (length() == NONE || !isArray(slot) || sizeOf(slot) != length() || !canReadAll(slot, 5)) {
            return NOT;
        }
        List<Integer> from = allPlaces();
        from.sort((p, q) -> Long.compare(figureOf(slot, p, f), figureOf(slot, q, f)));
        return rearrange(from);
    }

    private long figureOf(int slot, int p, int f) {
        return Array.getLong(state.slots[slot], p) >>> 3 * f & 7;
    }

    int deal(int k) {
        if (k < 1 || k > 12) {
            return OUTSIDE;
        }
        if (length() == NONE) {
            return NOT;
        }
        List<List<Integer>> heaps = new ArrayList<>();
        for (int h = 0; h < k; h++) {
            heaps.add(new ArrayList<>());
        }
        for (int p = 0; p < length(); p++) {
            heaps.get(p % k).add(p);
        }
        List<Integer> from = new ArrayList<>();
        heaps.forEach(from::addAll);
        return rearrange(from);
    }

    private int draw(int m) {
        random = (random * 1103515245L + 12345L) % (1L << 31);
        return (int) (random / 65536 % m);
    }

    int drift(int n) {
        if (n < 1 || n > 12) {
            return OUTSIDE;
        }
        int puts = 0;
        for (int time = 0; time < n; time++) {
            begin();
            int s = draw(6);
            int i = draw(12);
            int t = draw(10);
            int u = draw(256);
            puts += tryPut(s, i, make(t, t == 8 ? u % 8 : u - 128), 0) == 0 ? 1 : 0;
        }
        return puts;
    }

    int undo(int n) {
        if (n < 1 || n > 16) {
            return OUTSIDE;
        }
        if (n > undos.size()) {
            return NOT;
        }
        for (int time = 0; time < n; time++) {
            state = undos.remove(undos.size() - 1);
        }
        return undos.size();
    }

    // ---- the book and the images

    int write(int p, int v) {
        if (!isPlace(p)) {
            return UNKNOWN;
        }
        if (book.size() == 20) {
            return FULL;
        }
        book.add(new int[] {p, v});
        return book.size();
    }

    int tear() {
        int before = book.size();
        book.clear();
        return before;
    }

    int seed(int v) {
        if (v < 0) {
            return OUTSIDE;
        }
        int before = (int) random;
        random = v;
        return before;
    }

    int keep(int i) {
        if (i < 0 || i > 1) {
            return UNKNOWN;
        }
        images[i] = state.copy();
        imageRandoms[i] = random;
        undos.clear();
        return 1;
    }

    int goBack(int i) {
        if (i < 0 || i > 1) {
            return UNKNOWN;
        }
        if (images[i] == null) {
            return NOT;
        }
        state = images[i].copy();
        random = imageRandoms[i];
        undos.clear();
        return 1;
    }
}
