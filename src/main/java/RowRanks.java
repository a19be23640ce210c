/** A sorting workbench for parallel arrays of any element type. */
public final class RowRanks {
    public static final int NONE = -1, UNKNOWN = -1000000001, OUTSIDE = -1000000002, NOT = -1000000003, FULL = -1000000004;

    private static final int SLOTS = 6, CELLS = 12, TAGS = 8, FIRST_SEAL = 4, KEYS = 4;
    private static final int DEEDS = 16, ENTRIES = 20, IMAGES = 2;
    private static final int GREATEST_SHEET = 63, GREATEST_WEIGHT = 1000, GREATEST_FIGURE = 20;
    private static final int ALL_KEYS = 15, LOW_31_BITS = 2147483647;

    // The sorts of values; 0 to 7 are also the kinds of the arrays that hold them alone.
    private static final int BOOLEAN = 0, BYTE = 1, CHAR = 2, SHORT = 3, INT = 4, LONG = 5, FLOAT = 6, DOUBLE = 7;
    private static final int TAG = 8, NULL = 9;
    private static final int INTEGER_ARRAY = 8, OBJECT_ARRAY = 9, TAG_ARRAY = 10, SEAL_ARRAY = 11, EMPTY = 14;

    private static final int AS_IT_IS = 8;
    private static final int LESS = 0, ALIKE = 1, GREATER = 2;
    private static final int ALLOWED = 0, NOTHING_THERE = 1, NO_ARRAY = 2, NO_CELL = 3, NO_FIT = 4;

    // For each sort the set of the sorts that its values fit.
    private static final int[] WIDENS = {1, 250, 244, 248, 240, 224, 192, 128, 0, 0};

    private final Bench bench = new Bench();
    private final History history = new History();
    private final Book book = new Book();
    private final Ranking ranking = new Ranking();
    private final Ranking otherRanking = new Ranking();
    private final Moves moves = new Moves();
    private final Bench[] images = new Bench[IMAGES];
    private final int[] imageRandoms = new int[IMAGES];
    private int random;

    public RowRanks() {
        random = 0;
    }

    // ---- rows

    public int told(int what) {
        switch (what) {
            case 0: return bench.keyCount;
            case 1: return bench.sheetSet;
            case 2: return bench.length();
            case 3: case 4: case 5: case 6: case 7: case 8: return disorder(what);
            case 9: return keysThatMatter();
            case 10: return fewestKeys();
            case 11: return bench.explanation();
            case 12: return book.count;
            case 13:
                ranking.sortPlaces(bench, ALL_KEYS);
                return book.firstWrong(ranking);
            case 14: return history.count;
            case 15: return random;
            default: return OUTSIDE;
        }
    }

    public int row(int slot, int what) {
        if (!isSlot(slot)) {
            return UNKNOWN;
        }
        if (!isIn(what, 0, 1)) {
            return OUTSIDE;
        }
        if (what == 0) {
            return bench.kindOf(slot);
        }
        if (bench.holdsArray(slot)) {
            return bench.sizeOf(slot);
        }
        return bench.kindOf(slot) == EMPTY ? -1 : -2;
    }

    public long cell(int slot, int i, int what) {
        if (!isSlot(slot)) {
            return UNKNOWN;
        }
        if (!isIn(what, 0, 1)) {
            return OUTSIDE;
        }
        int reason = bench.whyNotRead(slot, i, AS_IT_IS);
        if (reason != ALLOWED) {
            return what == 0 ? -10 - reason : 0;
        }
        return what == 0 ? bench.sortAt(slot, i) : bench.numberAt(slot, i);
    }

    public long hand(int what) {
        switch (what) {
            case 0: return bench.handSort;
            case 1: return bench.handNumber;
            default: return OUTSIDE;
        }
    }

    public int tag(int t, int what) {
        if (!isTag(t)) {
            return UNKNOWN;
        }
        switch (what) {
            case 0: return bench.weightOf(t);
            case 1: return bench.heft(t);
            case 2: return bench.cellsWithTag(t);
            default: return OUTSIDE;
        }
    }

    public int keyAt(int k, int what) {
        if (k < 0 || k >= bench.keyCount) {
            return UNKNOWN;
        }
        switch (what) {
            case 0: return bench.keySlot(k);
            case 1: return bench.keyBy(k);
            case 2: return bench.keyWay(k);
            default: return OUTSIDE;
        }
    }

    // ---- order

    public int rank(int p, int what) {
        ranking.sortPlaces(bench, ALL_KEYS);
        if (!ranking.isPlace(p)) {
            return UNKNOWN;
        }
        switch (what) {
            case 0: return ranking.lesserThan(p);
            case 1: return ranking.classesBelow(p);
            case 2: return ranking.positionOf(p);
            case 3: return ranking.alikeTo(p);
            case 4: return ranking.placeAt(p);
            default: return OUTSIDE;
        }
    }

    public int compare(int a, int b) {
        int length = bench.length();
        if (!isIn(a, 0, length - 1) || !isIn(b, 0, length - 1)) {
            return UNKNOWN;
        }
        return relation(bench.comparePlaces(a, b, ALL_KEYS));
    }

    public int below(int slot, int by, int what) {
        if (!isSlot(slot)) {
            return UNKNOWN;
        }
        if (!isIn(by, 0, AS_IT_IS) || !isIn(what, 0, 1)) {
            return OUTSIDE;
        }
        if (!bench.holdsArray(slot) || by != AS_IT_IS && !fits(bench.handSort, by)) {
            return NONE;
        }
        if (bench.sizeOf(slot) > 0 && !bench.canRead(slot, by)) {
            return NONE;
        }
        return bench.cellsAgainstHand(slot, by, what == 0 ? LESS : ALIKE);
    }

    public int would(int slot, int p) {
        if (!isSlot(slot)) {
            return UNKNOWN;
        }
        if (bench.whyNotPut(slot, p, bench.handSort, bench.handNumber, false) != ALLOWED) {
            return NONE;
        }
        int oldSort = bench.sortAt(slot, p);
        long oldNumber = bench.numberAt(slot, p);
        bench.store(slot, p, bench.handSort, bench.handNumber);
        ranking.sortPlaces(bench, ALL_KEYS);
        bench.setCell(slot, p, oldSort, oldNumber);
        return ranking.isPlace(p) ? ranking.lesserThan(p) : NONE;
    }

    // ---- deeds

    public int lay(int slot, int kind, int n) {
        if (!isSlot(slot)) {
            return UNKNOWN;
        }
        if (!isIn(kind, 0, EMPTY) || !isIn(n, 0, CELLS)) {
            return OUTSIDE;
        }
        int before = bench.kindOf(slot);
        history.remember(bench);
        bench.renew(slot, kind, n);
        return before;
    }

    public int take(int sort, long v) {
        if (!isIn(sort, 0, NULL)) {
            return OUTSIDE;
        }
        if (sort == TAG && !isTag(v)) {
            return UNKNOWN;
        }
        int before = bench.handSort;
        history.remember(bench);
        bench.setHand(sort, made(sort, v));
        return before;
    }

    public int pick(int slot, int i, int by) {
        if (!isSlot(slot)) {
            return UNKNOWN;
        }
        if (!isIn(by, 0, AS_IT_IS)) {
            return OUTSIDE;
        }
        int reason = bench.whyNotRead(slot, i, by);
        if (reason != ALLOWED) {
            return reason;
        }
        int sort = by == AS_IT_IS ? bench.sortAt(slot, i) : by;
        long number = made(sort, bench.numberAt(slot, i));
        history.remember(bench);
        bench.setHand(sort, number);
        return ALLOWED;
    }

    public int put(int slot, int i, int how) {
        if (!isSlot(slot)) {
            return UNKNOWN;
        }
        if (!isIn(how, 0, 1)) {
            return OUTSIDE;
        }
        if (how == 1 && bench.handSort >= TAG) {
            return NOT;
        }
        int reason = bench.whyNotPut(slot, i, bench.handSort, bench.handNumber, how == 1);
        if (reason == ALLOWED) {
            history.remember(bench);
            bench.store(slot, i, bench.handSort, bench.handNumber);
        }
        return reason;
    }

    public int pour(int a, int i, int c, int j, int n) {
        if (!isSlot(a) || !isSlot(c)) {
            return UNKNOWN;
        }
        if (!isIn(n, 0, CELLS)) {
            return OUTSIDE;
        }
        history.remember(bench);
        int copied = 0;
        while (copied < n && bench.copyCell(a, i + copied, c, j + copied)) {
            copied++;
        }
        return copied;
    }

    public int weigh(int t, int w) {
        if (!isTag(t)) {
            return UNKNOWN;
        }
        if (!isIn(w, -GREATEST_WEIGHT, GREATEST_WEIGHT)) {
            return OUTSIDE;
        }
        int before = bench.weightOf(t);
        history.remember(bench);
        bench.setWeight(t, w);
        return before;
    }

    public int key(int slot, int by, int way) {
        if (!isSlot(slot)) {
            return UNKNOWN;
        }
        if (!isIn(by, 0, AS_IT_IS) || !isIn(way, 0, 1)) {
            return OUTSIDE;
        }
        if (bench.keyCount >= KEYS) {
            return FULL;
        }
        history.remember(bench);
        bench.addKey(slot, by, way);
        return bench.keyCount;
    }

    public int unkey() {
        if (bench.keyCount <= 0) {
            return NOT;
        }
        history.remember(bench);
        bench.keyCount--;
        return bench.keyCount;
    }

    public int sheet(int set) {
        if (!isIn(set, 0, GREATEST_SHEET)) {
            return OUTSIDE;
        }
        int before = bench.sheetSet;
        history.remember(bench);
        bench.sheetSet = set;
        return before;
    }

    public int settle() {
        ranking.sortPlaces(bench, ALL_KEYS);
        if (!ranking.isFit()) {
            return NOT;
        }
        moves.clear();
        for (int k = 0; k < ranking.length; k++) {
            moves.add(ranking.placeAt(k));
        }
        return rearrange();
    }

    public int pass() {
        int length = bench.length();
        if (length == NONE) {
            return NOT;
        }
        history.remember(bench);
        int exchanges = 0;
        for (int p = 0; p < length - 1; p++) {
            if (bench.comparePlaces(p + 1, p, ALL_KEYS) < 0) {
                exchangeNow(p, p + 1, length);
                exchanges++;
            }
        }
        return exchanges;
    }

    public int move(int a, int b, int how) {
        int length = bench.length();
        if (!isIn(a, 0, length - 1) || !isIn(b, 0, length - 1)) {
            return UNKNOWN;
        }
        if (!isIn(how, 0, 2)) {
            return OUTSIDE;
        }
        planMove(a, b, how, length);
        rearrange();
        return 1;
    }

    public int part(int p) {
        ranking.sortPlaces(bench, ALL_KEYS);
        if (!ranking.isPlace(p)) {
            return UNKNOWN;
        }
        moves.clear();
        for (int group = LESS; group <= GREATER; group++) {
            for (int q = 0; q < ranking.length; q++) {
                if (relation(ranking.compareByRank(q, p)) == group) {
                    moves.add(q);
                }
            }
        }
        rearrange();
        return 100 * ranking.lesserThan(p) + ranking.alikeTo(p);
    }

    public int figure(int slot, int f) {
        if (!isSlot(slot)) {
            return UNKNOWN;
        }
        if (!isIn(f, 0, GREATEST_FIGURE)) {
            return OUTSIDE;
        }
        int length = bench.length();
        if (length == NONE || !bench.holdsArray(slot) || bench.sizeOf(slot) != length) {
            return NOT;
        }
        if (length > 0 && !bench.canRead(slot, LONG)) {
            return NOT;
        }
        moves.clear();
        for (int digit = 0; digit <= 7; digit++) {
            for (int p = 0; p < length; p++) {
                if ((bench.numberAt(slot, p) >>> 3 * f & 7) == digit) {
                    moves.add(p);
                }
            }
        }
        return rearrange();
    }

    public int deal(int k) {
        if (!isIn(k, 1, CELLS)) {
            return OUTSIDE;
        }
        int length = bench.length();
        if (length == NONE) {
            return NOT;
        }
        moves.clear();
        for (int heap = 0; heap < k; heap++) {
            for (int p = heap; p < length; p += k) {
                moves.add(p);
            }
        }
        return rearrange();
    }

    public int drift(int n) {
        if (!isIn(n, 1, CELLS)) {
            return OUTSIDE;
        }
        int puts = 0;
        for (int time = 0; time < n; time++) {
            history.remember(bench);
            if (putByChance()) {
                puts++;
            }
        }
        return puts;
    }

    public int undo(int n) {
        if (!isIn(n, 1, DEEDS)) {
            return OUTSIDE;
        }
        if (n > history.count) {
            return NOT;
        }
        history.takeBack(n, bench);
        return history.count;
    }

    // ---- the book

    public int write(int p, int v) {
        if (!isIn(p, 0, bench.length() - 1)) {
            return UNKNOWN;
        }
        if (book.count >= ENTRIES) {
            return FULL;
        }
        book.add(p, v);
        return book.count;
    }

    public int tear() {
        int before = book.count;
        book.count = 0;
        return before;
    }

    // ---- images

    public int seed(int v) {
        if (v < 0) {
            return OUTSIDE;
        }
        int before = random;
        random = v;
        return before;
    }

    public int keep(int i) {
        if (!isIn(i, 0, IMAGES - 1)) {
            return UNKNOWN;
        }
        Bench image = images[i];
        if (image == null) {
            image = new Bench();
            images[i] = image;
        }
        image.copyFrom(bench);
        imageRandoms[i] = random;
        history.count = 0;
        return 1;
    }

    public int goBack(int i) {
        if (!isIn(i, 0, IMAGES - 1)) {
            return UNKNOWN;
        }
        Bench image = images[i];
        if (image == null) {
            return NOT;
        }
        bench.copyFrom(image);
        random = imageRandoms[i];
        history.count = 0;
        return 1;
    }

    // ---- what the calls share

    private static boolean isIn(int value, int least, int greatest) {
        return value >= least && value <= greatest;
    }

    private static boolean isSlot(int slot) {
        return slot >= 0 && slot < SLOTS;
    }

    private static boolean isTag(long t) {
        return t >= 0 && t < TAGS;
    }

    private static int relation(int comparison) {
        if (comparison == 0) {
            return ALIKE;
        }
        return comparison < 0 ? LESS : GREATER;
    }

    private static boolean fits(int sort, int wanted) {
        if (sort < 0 || sort >= WIDENS.length || wanted < 0 || wanted > DOUBLE) {
            return false;
        }
        return (WIDENS[sort] >> wanted & 1) == 1;
    }

    /**
     * The number of the value that is made of a sort and v. Floats and doubles that come from longs are told
     * apart, ordered and widened rightly by their numbers alone, so a value is held as its sort and number.
     */
    private static long made(int sort, long v) {
        switch (sort) {
            case BOOLEAN: return v != 0 ? 1 : 0;
            case BYTE: return (byte) v;
            case CHAR: return (char) v;
            case SHORT: return (short) v;
            case INT: return (int) v;
            case FLOAT: return (long) (float) v;
            case DOUBLE: return (long) (double) v;
            case NULL: return 0;
            default: return v;
        }
    }

    private int disorder(int what) {
        ranking.sortPlaces(bench, ALL_KEYS);
        if (!ranking.isFit()) {
            return NONE;
        }
        switch (what) {
            case 3: return ranking.alikePairs();
            case 4: return ranking.inversions();
            case 5: return ranking.sections();
            case 6: return ranking.longestSorted();
            case 7: return ranking.exchanges();
            default: return ranking.bubblePasses();
        }
    }

    private int keysThatMatter() {
        ranking.sortPlaces(bench, ALL_KEYS);
        if (!ranking.isFit()) {
            return NONE;
        }
        int set = 0;
        for (int k = 0; k < bench.keyCount; k++) {
            otherRanking.sortPlaces(bench, ALL_KEYS & ~(1 << k));
            if (!ranking.hasOrderOf(otherRanking)) {
                set |= 1 << k;
            }
        }
        return set;
    }

    private int fewestKeys() {
        ranking.sortPlaces(bench, ALL_KEYS);
        if (!ranking.isFit()) {
            return NONE;
        }
        int all = (1 << bench.keyCount) - 1;
        int best = all;
        for (int set = 0; set < all; set++) {
            otherRanking.sortPlaces(bench, set);
            // A set with as many keys as the best one has a greater number, so it must not replace it.
            boolean isFewer = Integer.bitCount(set) < Integer.bitCount(best);
            if (isFewer && ranking.hasOrderOf(otherRanking)) {
                best = set;
            }
        }
        return best;
    }

    /** Carries out the planned moves as a deed and counts the places that get what another one had. */
    private int rearrange() {
        history.remember(bench);
        moves.applyTo(bench);
        return moves.countMoved();
    }

    private void planMove(int a, int b, int how, int length) {
        moves.clear();
        for (int p = 0; p < length; p++) {
            moves.add(sourceOf(p, a, b, how));
        }
    }

    private static int sourceOf(int p, int a, int b, int how) {
        if (!isIn(p, Math.min(a, b), Math.max(a, b))) {
            return p;
        }
        if (how == 1) {
            return a + b - p;
        }
        if (p == b) {
            return a;
        }
        if (how == 0) {
            return p == a ? b : p;
        }
        return a < b ? p + 1 : p - 1;
    }

    private void exchangeNow(int a, int b, int length) {
        planMove(a, b, 0, length);
        moves.applyTo(bench);
    }

    private int draw(int m) {
        random = (int) (random * 1103515245L + 12345L & LOW_31_BITS);
        return m > 0 ? random / 65536 % m : 0;
    }

    private boolean putByChance() {
        int slot = draw(SLOTS);
        int i = draw(CELLS);
        int sort = draw(NULL + 1);
        int u = draw(256);
        long number = sort == TAG ? u % TAGS : made(sort, u - 128);
        if (bench.whyNotPut(slot, i, sort, number, false) != ALLOWED) {
            return false;
        }
        bench.store(slot, i, sort, number);
        return true;
    }

    /** All that deeds change: the slots, the hand, the weights, the keys and the sheet. */
    private static final class Bench {
        private final int[] kinds = new int[SLOTS];
        private final int[] sizes = new int[SLOTS];
        private final int[] sorts = new int[SLOTS * CELLS];
        private final long[] numbers = new long[SLOTS * CELLS];
        private final int[] weights = new int[TAGS];
        private final int[] keySlots = new int[KEYS];
        private final int[] keyBys = new int[KEYS];
        private final int[] keyWays = new int[KEYS];
        private int keyCount;
        private int sheetSet;
        private int handSort;
        private long handNumber;

        Bench() {
            for (int slot = 0; slot < SLOTS; slot++) {
                kinds[slot] = EMPTY;
            }
            for (int t = 0; t < TAGS; t++) {
                weights[t] = t / 2;
            }
            handSort = NULL;
        }

        void copyFrom(Bench other) {
            System.arraycopy(other.kinds, 0, kinds, 0, SLOTS);
            System.arraycopy(other.sizes, 0, sizes, 0, SLOTS);
            System.arraycopy(other.sorts, 0, sorts, 0, SLOTS * CELLS);
            System.arraycopy(other.numbers, 0, numbers, 0, SLOTS * CELLS);
            System.arraycopy(other.weights, 0, weights, 0, TAGS);
            System.arraycopy(other.keySlots, 0, keySlots, 0, KEYS);
            System.arraycopy(other.keyBys, 0, keyBys, 0, KEYS);
            System.arraycopy(other.keyWays, 0, keyWays, 0, KEYS);
            keyCount = other.keyCount;
            sheetSet = other.sheetSet;
            handSort = other.handSort;
            handNumber = other.handNumber;
        }

        // ---- slots and cells

        int kindOf(int slot) {
            return slot >= 0 && slot < SLOTS ? kinds[slot] : EMPTY;
        }

        int sizeOf(int slot) {
            return slot >= 0 && slot < SLOTS ? sizes[slot] : 0;
        }

        boolean holdsArray(int slot) {
            return kindOf(slot) <= SEAL_ARRAY;
        }

        void renew(int slot, int kind, int n) {
            if (!isSlot(slot)) {
                return;
            }
            kinds[slot] = kind;
            sizes[slot] = kind <= SEAL_ARRAY ? n : 0;
            for (int i = 0; i < CELLS; i++) {
                setCell(slot, i, kind <= DOUBLE ? kind : NULL, 0);
            }
        }

        private static boolean isCell(int slot, int i) {
            return slot >= 0 && slot < SLOTS && i >= 0 && i < CELLS;
        }

        int sortAt(int slot, int i) {
            return isCell(slot, i) ? sorts[slot * CELLS + i] : NULL;
        }

        long numberAt(int slot, int i) {
            return isCell(slot, i) ? numbers[slot * CELLS + i] : 0;
        }

        void setCell(int slot, int i, int sort, long number) {
            if (isCell(slot, i)) {
                sorts[slot * CELLS + i] = sort;
                numbers[slot * CELLS + i] = number;
            }
        }

        /** Why a cell is not there to be read or put, if it is not. */
        private int whyNotReach(int slot, int i) {
            if (kindOf(slot) == EMPTY) {
                return NOTHING_THERE;
            }
            if (!holdsArray(slot)) {
                return NO_ARRAY;
            }
            return isIn(i, 0, sizeOf(slot) - 1) ? ALLOWED : NO_CELL;
        }

        /** Whether the cells of a slot, if there are any, can be read so. */
        boolean canRead(int slot, int by) {
            int kind = kindOf(slot);
            if (by == AS_IT_IS) {
                return kind <= SEAL_ARRAY;
            }
            return kind <= DOUBLE && fits(kind, by);
        }

        int whyNotRead(int slot, int i, int by) {
            int reason = whyNotReach(slot, i);
            if (reason == ALLOWED && !canRead(slot, by)) {
                return NO_FIT;
            }
            return reason;
        }

        int whyNotPut(int slot, int i, int sort, long number, boolean bySort) {
            int reason = whyNotReach(slot, i);
            if (reason != ALLOWED) {
                return reason;
            }
            int kind = kindOf(slot);
            if (kind <= DOUBLE) {
                return fits(sort, kind) ? ALLOWED : NO_FIT;
            }
            return !bySort && canHold(kind, sort, number) ? ALLOWED : NO_FIT;
        }

        private static boolean canHold(int kind, int sort, long number) {
            if (sort == NULL || kind == OBJECT_ARRAY) {
                return true;
            }
            if (kind == INTEGER_ARRAY) {
                return sort == INT;
            }
            return sort == TAG && (kind == TAG_ARRAY || number >= FIRST_SEAL);
        }

        /** Puts a value that is not refused there. */
        void store(int slot, int i, int sort, long number) {
            int kind = kindOf(slot);
            if (kind <= DOUBLE) {
                setCell(slot, i, kind, made(kind, number));
            } else {
                setCell(slot, i, sort, number);
            }
        }

        boolean copyCell(int a, int i, int c, int j) {
            if (whyNotRead(a, i, AS_IT_IS) != ALLOWED) {
                return false;
            }
            int sort = sortAt(a, i);
            long number = numberAt(a, i);
            if (whyNotPut(c, j, sort, number, false) != ALLOWED) {
                return false;
            }
            store(c, j, sort, number);
            return true;
        }

        // ---- hand and tags

        void setHand(int sort, long number) {
            handSort = sort;
            handNumber = number;
        }

        int weightOf(int t) {
            return isTag(t) ? weights[t] : 0;
        }

        void setWeight(int t, int w) {
            if (isTag(t)) {
                weights[t] = w;
            }
        }

        int heft(long t) {
            if (t < 0 || t >= TAGS) {
                return 0;
            }
            return t >= FIRST_SEAL ? 2 * weights[(int) t] : weights[(int) t];
        }

        int cellsWithTag(int t) {
            int count = 0;
            for (int slot = 0; slot < SLOTS; slot++) {
                for (int i = 0; i < sizeOf(slot); i++) {
                    if (sortAt(slot, i) == TAG && numberAt(slot, i) == t) {
                        count++;
                    }
                }
            }
            return count;
        }

        // ---- keys

        int keySlot(int k) {
            return k >= 0 && k < KEYS ? keySlots[k] : 0;
        }

        int keyBy(int k) {
            return k >= 0 && k < KEYS ? keyBys[k] : 0;
        }

        int keyWay(int k) {
            return k >= 0 && k < KEYS ? keyWays[k] : 0;
        }

        void addKey(int slot, int by, int way) {
            if (keyCount >= 0 && keyCount < KEYS) {
                keySlots[keyCount] = slot;
                keyBys[keyCount] = by;
                keyWays[keyCount] = way;
                keyCount++;
            }
        }

        // ---- places

        /** L, or NONE if the workbench is not fit. */
        int length() {
            int concerned = sheetSet;
            for (int k = 0; k < keyCount; k++) {
                concerned |= 1 << keySlot(k);
            }
            int length = NONE;
            for (int slot = 0; slot < SLOTS; slot++) {
                if ((concerned >> slot & 1) == 1) {
                    if (!holdsArray(slot) || length != NONE && sizeOf(slot) != length) {
                        return NONE;
                    }
                    length = sizeOf(slot);
                }
            }
            return length > 0 && !keysCanRead() ? NONE : length;
        }

        private boolean keysCanRead() {
            for (int k = 0; k < keyCount; k++) {
                if (!canRead(keySlot(k), keyBy(k))) {
                    return false;
                }
            }
            return true;
        }

        /** Below 0 if place a is less by the keys in a set, 0 if both are alike, above 0 if b is less. */
        int comparePlaces(int a, int b, int keys) {
            for (int k = 0; k < keyCount; k++) {
                if ((keys >> k & 1) == 1) {
                    int comparison = compareCells(keySlot(k), keyBy(k), a, b);
                    if (comparison != 0) {
                        return keyWay(k) == 0 ? comparison : -comparison;
                    }
                }
            }
            return 0;
        }

        private int compareCells(int slot, int by, int a, int b) {
            if (by == AS_IT_IS) {
                return compareValues(sortAt(slot, a), numberAt(slot, a), sortAt(slot, b), numberAt(slot, b));
            }
            return Long.compare(made(by, numberAt(slot, a)), made(by, numberAt(slot, b)));
        }

        private int compareValues(int sortA, long numberA, int sortB, long numberB) {
            if (sortA != sortB) {
                if (sortA == NULL) {
                    return -1;
                }
                return sortB == NULL ? 1 : Integer.compare(sortA, sortB);
            }
            if (sortA == TAG) {
                return Integer.compare(heft(numberA), heft(numberB));
            }
            return Long.compare(numberA, numberB);
        }

        /** How many cells of a slot have this relation to the value of the hand. */
        int cellsAgainstHand(int slot, int by, int wanted) {
            int count = 0;
            for (int i = 0; i < sizeOf(slot); i++) {
                if (relation(compareWithHand(slot, i, by)) == wanted) {
                    count++;
                }
            }
            return count;
        }

        private int compareWithHand(int slot, int i, int by) {
            if (by == AS_IT_IS) {
                return compareValues(sortAt(slot, i), numberAt(slot, i), handSort, handNumber);
            }
            return Long.compare(made(by, numberAt(slot, i)), made(by, handNumber));
        }

        /** The least number of a key by which a slot is already sorted, or NONE. */
        int explanation() {
            for (int slot = 0; slot < SLOTS; slot++) {
                for (int by = 0; by <= AS_IT_IS; by++) {
                    for (int way = 0; way <= 1; way++) {
                        if (explains(slot, by, way)) {
                            return 18 * slot + 2 * by + way;
                        }
                    }
                }
            }
            return NONE;
        }

        private boolean explains(int slot, int by, int way) {
            if (sizeOf(slot) < 2 || !canRead(slot, by)) {
                return false;
            }
            for (int i = 1; i < sizeOf(slot); i++) {
                int comparison = compareCells(slot, by, i, i - 1);
                if (way == 0 ? comparison < 0 : comparison > 0) {
                    return false;
                }
            }
            return true;
        }
    }

    /** The places of a workbench, ranked by some of its keys. */
    private static final class Ranking {
        private final int[] lesser = new int[CELLS];
        private final int[] positions = new int[CELLS];
        private final int[] places = new int[CELLS];
        private final int[] longest = new int[CELLS];
        private int length;

        void sortPlaces(Bench bench, int keys) {
            length = Math.min(bench.length(), CELLS);
            for (int p = 0; p < length; p++) {
                lesser[p] = 0;
                for (int q = 0; q < length; q++) {
                    if (bench.comparePlaces(q, p, keys) < 0) {
                        lesser[p]++;
                    }
                }
            }
            for (int p = 0; p < length; p++) {
                positions[p] = lesser[p] + alikeBefore(p);
            }
            for (int p = 0; p < length; p++) {
                if (isPlace(positions[p])) {
                    places[positions[p]] = p;
                }
            }
        }

        boolean isFit() {
            return length != NONE;
        }

        boolean isPlace(int p) {
            return p >= 0 && p < length && p < CELLS;
        }

        int lesserThan(int p) {
            return isPlace(p) ? lesser[p] : 0;
        }

        int positionOf(int p) {
            return isPlace(p) ? positions[p] : NONE;
        }

        int placeAt(int position) {
            return isPlace(position) ? places[position] : NONE;
        }

        /** Compares as the keys do: the more places are less than a place, the greater it is. */
        int compareByRank(int a, int b) {
            return Integer.compare(lesserThan(a), lesserThan(b));
        }

        private int alikeBefore(int p) {
            int count = 0;
            for (int q = 0; q < p; q++) {
                if (compareByRank(q, p) == 0) {
                    count++;
                }
            }
            return count;
        }

        int alikeTo(int p) {
            int count = 0;
            for (int q = 0; q < length; q++) {
                if (compareByRank(q, p) == 0) {
                    count++;
                }
            }
            return count;
        }

        int classesBelow(int p) {
            int count = 0;
            for (int q = 0; q < length; q++) {
                if (compareByRank(q, p) < 0 && alikeBefore(q) == 0) {
                    count++;
                }
            }
            return count;
        }

        boolean hasOrderOf(Ranking other) {
            for (int p = 0; p < length; p++) {
                if (positionOf(p) != other.positionOf(p)) {
                    return false;
                }
            }
            return true;
        }

        int alikePairs() {
            int count = 0;
            for (int p = 0; p < length; p++) {
                count += alikeBefore(p);
            }
            return count;
        }

        int inversions() {
            int count = 0;
            for (int p = 0; p < length; p++) {
                count += greaterBefore(p);
            }
            return count;
        }

        int sections() {
            int count = length > 0 ? 1 : 0;
            for (int p = 1; p < length; p++) {
                if (compareByRank(p, p - 1) < 0) {
                    count++;
                }
            }
            return count;
        }

        int longestSorted() {
            int best = 0;
            for (int p = 0; p < length && p < CELLS; p++) {
                longest[p] = 1;
                for (int q = 0; q < p; q++) {
                    if (compareByRank(p, q) >= 0) {
                        longest[p] = Math.max(longest[p], longest[q] + 1);
                    }
                }
                best = Math.max(best, longest[p]);
            }
            return best;
        }

        /** Each cycle of the places and their positions needs one exchange less than it has places. */
        int exchanges() {
            int count = 0;
            int seen = 0;
            for (int start = 0; start < length; start++) {
                int p = start;
                for (int step = 0; step < length && (seen >> p & 1) == 0; step++) {
                    seen |= 1 << p;
                    p = positionOf(p);
                    count += p == start ? 0 : 1;
                }
            }
            return count;
        }

        int bubblePasses() {
            int most = 0;
            for (int p = 0; p < length; p++) {
                most = Math.max(most, greaterBefore(p));
            }
            return most;
        }

        private int greaterBefore(int p) {
            int count = 0;
            for (int q = 0; q < p; q++) {
                if (compareByRank(p, q) < 0) {
                    count++;
                }
            }
            return count;
        }
    }

    /** A plan that tells for the places, one after the other, from which place each gets its cells. */
    private static final class Moves {
        private final int[] from = new int[CELLS];
        private final int[] oldSorts = new int[CELLS];
        private final long[] oldNumbers = new long[CELLS];
        private int count;

        void clear() {
            count = 0;
        }

        void add(int place) {
            if (count >= 0 && count < CELLS && place >= 0 && place < CELLS) {
                from[count] = place;
                count++;
            }
        }

        int countMoved() {
            int moved = 0;
            for (int p = 0; p < count && p < CELLS; p++) {
                if (from[p] != p) {
                    moved++;
                }
            }
            return moved;
        }

        void applyTo(Bench bench) {
            for (int slot = 0; slot < SLOTS; slot++) {
                if ((bench.sheetSet >> slot & 1) == 1) {
                    applyToSlot(bench, slot);
                }
            }
        }

        private void applyToSlot(Bench bench, int slot) {
            for (int p = 0; p < count && p < CELLS; p++) {
                oldSorts[p] = bench.sortAt(slot, from[p]);
                oldNumbers[p] = bench.numberAt(slot, from[p]);
            }
            for (int p = 0; p < count && p < CELLS; p++) {
                bench.setCell(slot, p, oldSorts[p], oldNumbers[p]);
            }
        }
    }

    /** What the workbench was before each of the latest deeds, in a ring. */
    private static final class History {
        private final Bench[] before = new Bench[DEEDS];
        private int next;
        private int count;

        void remember(Bench bench) {
            int index = Math.floorMod(next, DEEDS);
            Bench old = before[index];
            if (old == null) {
                // Made once for each part of the ring and used again, so that long runs need no more room.
                old = new Bench();
                before[index] = old;
            }
            old.copyFrom(bench);
            next = index + 1;
            count = Math.min(count + 1, DEEDS);
        }

        void takeBack(int n, Bench bench) {
            int index = Math.floorMod(next - n, DEEDS);
            Bench old = before[index];
            if (old != null && n <= count) {
                bench.copyFrom(old);
                next = index;
                count -= n;
            }
        }
    }

    /** Entries that say which position a place has. */
    private static final class Book {
        private final int[] places = new int[ENTRIES];
        private final int[] positions = new int[ENTRIES];
        private int count;

        void add(int place, int position) {
            if (count >= 0 && count < ENTRIES) {
                places[count] = place;
                positions[count] = position;
                count++;
            }
        }

        int firstWrong(Ranking ranking) {
            for (int e = 0; e < count && e < ENTRIES; e++) {
                if (!ranking.isPlace(places[e]) || ranking.positionOf(places[e]) != positions[e]) {
                    return e;
                }
            }
            return NONE;
        }
    }
}
