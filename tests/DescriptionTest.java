import java.util.List;

/** The sentences of the Description, one after the other, each with the edges that it names. */
public final class DescriptionTest {
    private static final long[] LONGS = {0, 1, -1, 2, 127, 128, -128, -129, 255, 256, 32767, 32768, -32768, -32769, 65535, 65536,
        16777216, 16777217, 16777219, -16777217, 2147483647L, 2147483648L, -2147483648L, -2147483649L, 4294967295L, 4294967296L,
        9007199254740992L, 9007199254740993L, -9007199254740993L, 1152921573326323713L, -1152921573326323713L,
        9223371487098961919L, 9223371487098961920L, 9223372036854775807L, 9223372036854775295L, -9223372036854775808L};

    // For each sort the sorts that its values fit.
    private static final String[] FITTING = {"0", "134567", "24567", "34567", "4567", "567", "67", "7", "", ""};
    // For each kind of the objects' arrays the sorts that its cells can hold.
    private static final String[] HOLDING = {"49", "0123456789", "89", "89"};

    private DescriptionTest() {
    }

    public static void main(String[] args) {
        fiveHundredAndTwelveCalls();
        valuesAreMade();
        floatsAreMadeFromLongs();
        tags();
        valuesFitAndAreConverted();
        slotsAtFirst();
        putAsItIs();
        putBySort();
        readAsItIs();
        readBySort();
        reasonsInTheirOrder();
        keysAndSheet();
        fit();
        fitWithoutCells();
        valuesAreCompared();
        floatsAreCompared();
        tagsAreCompared();
        placesAreCompared();
        orderIsStable();
        rearranging();
        wrongEntries();
        imagesKeep();
        imagesKeepTheFourthKey();
        noneIsNoError();
        Runs.finish();
    }

    // ---- values

    private static void fiveHundredAndTwelveCalls() {
        RowRanks x = new RowRanks();
        for (int call = 1; call <= 509; call++) {
            Runs.due("the 512 calls: weigh", x.weigh(3, call), call == 1 ? 1 : call - 1);
        }
        Runs.goOn(x, "the 512 calls", "told(14) = 16; undo(16) = 0; tag(3, 0) = 493");
    }

    private static long castTo(int sort, long v) {
        switch (sort) {
            case 0: return v == 0 ? 0 : 1;
            case 1: return (byte) v;
            case 2: return (char) v;
            case 3: return (short) v;
            case 4: return (int) v;
            case 6: return (long) (float) v;
            case 7: return (long) (double) v;
            default: return v;
        }
    }

    private static void valuesAreMade() {
        for (long v : LONGS) {
            for (int sort = 0; sort <= 7; sort++) {
                Runs.play("made of a sort and v", "take(" + sort + ", " + v + ") = 9; hand(0) = " + sort,
                    "hand(1) = " + castTo(sort, v));
            }
            Runs.play("9: null, its number is 0", "take(4, 7); take(9, " + v + ") = 4; hand(0) = 9; hand(1) = 0");
        }
        Runs.play("true if v is not 0", "take(0, 256); hand(1) = 1; take(0, 65536); hand(1) = 1; take(0, 4294967296); hand(1) = 1",
            "take(0, -9223372036854775808); hand(1) = 1; take(0, 2); hand(1) = 1; take(0, 0); hand(1) = 0");
        for (int t = 0; t < 8; t++) {
            Runs.play("8: the tag v, its number is its index", "take(8, " + t + ") = 9; hand(0) = 8; hand(1) = " + t);
        }
        Runs.play("the hand is null at first", "hand(0) = 9; hand(1) = 0");
    }

    private static void floatsAreMadeFromLongs() {
        // By way of a double this would come to 2^60, for 2^60 + 2^36 is half way between two floats.
        Runs.play("cast to float at once", "take(6, 1152921573326323713); hand(1) = 1152921642045800448",
            "lay(0, 5, 1); take(5, 1152921573326323713); put(0, 0, 0) = 0; pick(0, 0, 6) = 0; hand(1) = 1152921642045800448",
            "pick(0, 0, 7) = 0; hand(1) = 1152921573326323712; lay(1, 6, 1); take(5, 1152921573326323713); put(1, 0, 0) = 0",
            "cell(1, 0, 1) = 1152921642045800448; lay(2, 7, 1); put(2, 0, 1) = 0; cell(2, 0, 1) = 1152921573326323712");
        Runs.play("half way goes to the even one", "take(6, 16777217); hand(1) = 16777216; take(6, 16777219); hand(1) = 16777220");
        Runs.play("the number is the value cast to long", "take(6, 9223372036854775807); hand(1) = 9223372036854775807",
            "take(7, 9223372036854775807); hand(1) = 9223372036854775807; take(7, 9223372036854775295)",
            "hand(1) = 9223372036854774784; take(6, -9223372036854775808); hand(1) = -9223372036854775808");
    }

    private static void tags() {
        for (int t = 0; t < 8; t++) {
            int weight = t / 2;
            int times = t >= 4 ? 2 : 1;
            Runs.play("weight and heft of tag " + t, "tag(" + t + ", 0) = " + weight + "; tag(" + t + ", 1) = " + times * weight,
                "weigh(" + t + ", 1000) = " + weight + "; tag(" + t + ", 0) = 1000; tag(" + t + ", 1) = " + times * 1000,
                "weigh(" + t + ", -1000) = 1000; tag(" + t + ", 0) = -1000; tag(" + t + ", 1) = " + times * -1000,
                "weigh(" + t + ", 1001) = OUTSIDE; weigh(" + t + ", -1001) = OUTSIDE; tag(" + t + ", 0) = -1000");
        }
    }

    private static boolean fits(int sort, int wanted) {
        return FITTING[sort].indexOf('0' + wanted) >= 0;
    }

    /** Every pair of sorts, by the four ways on which a value can be converted. */
    private static void valuesFitAndAreConverted() {
        for (int a = 0; a <= 7; a++) {
            for (int b = 0; b <= 7; b++) {
                for (long v : LONGS) {
                    long number = castTo(b, castTo(a, v));
                    String name = "sort " + a + " to " + b;
                    String due = fits(a, b) ? " = 0;" : " = 4;";
                    String cell = fits(a, b) ? "cell(0, 0, 0) = " + b + "; cell(0, 0, 1) = " + number : "cell(0, 0, 1) = 0";
                    String taken = "take(" + a + ", " + v + ");";
                    Runs.play(name, "lay(0, " + b + ", 1);", taken, "put(0, 0, 0)" + due, cell);
                    Runs.play(name, "lay(0, " + b + ", 1);", taken, "put(0, 0, 1)" + due, cell);
                    Runs.play(name, "lay(1, " + a + ", 1);", taken, "put(1, 0, 0) = 0; lay(0, " + b + ", 1)",
                        "pour(1, 0, 0, 0, 1) = " + (fits(a, b) ? 1 : 0), cell);
                    Runs.play(name, "lay(1, " + a + ", 1);", taken, "put(1, 0, 0) = 0; pick(1, 0, " + b + ")" + due,
                        "hand(0) = " + (fits(a, b) ? b : a) + "; hand(1) = " + (fits(a, b) ? number : castTo(a, v)));
                }
            }
        }
    }

    // ---- slots

    private static void slotsAtFirst() {
        for (int slot = 0; slot < 6; slot++) {
            Runs.play("all slots are empty at first", "row(" + slot + ", 0) = 14; row(" + slot + ", 1) = -1; cell(" + slot + ", 0, 0) = -11");
        }
        Runs.play("there are six slots", "row(-1, 0) = UNKNOWN; row(6, 0) = UNKNOWN; lay(5, 4, 1) = 14; lay(6, 4, 1) = UNKNOWN");
        for (int kind = 0; kind <= 14; kind++) {
            for (int n = 0; n <= 12; n++) {
                StringBuilder run = new StringBuilder("lay(2, " + kind + ", " + n + ") = 14; row(2, 0) = " + kind);
                run.append("; row(2, 1) = ").append(kind == 14 ? -1 : kind >= 12 ? -2 : n);
                for (int i = 0; i <= 12; i++) {
                    int none = kind == 14 ? -11 : kind >= 12 ? -12 : -13;
                    run.append("; cell(2, " + i + ", 0) = ").append(i < n && kind < 12 ? Math.min(kind, 8) == 8 ? 9 : kind : none);
                    run.append("; cell(2, " + i + ", 1) = 0");
                }
                Runs.play("kind " + kind + " with " + n + " cells", run.toString());
            }
        }
        Runs.play("arrays have 0 to 12 cells", "lay(0, 4, 13) = OUTSIDE; lay(0, 4, -1) = OUTSIDE; row(0, 0) = 14");
    }

    private static void putAsItIs() {
        for (int kind = 0; kind <= 11; kind++) {
            for (int sort = 0; sort <= 9; sort++) {
                boolean can = kind <= 7 ? fits(sort, kind) : HOLDING[kind - 8].indexOf('0' + sort) >= 0;
                // 7 is a seal, and a number that each sort can have.
                int number = sort == 9 ? 0 : sort == 0 || kind == 0 ? 1 : 7;
                Runs.play("as it is: sort " + sort + " into kind " + kind, "lay(0, " + kind + ", 3); take(" + sort + ", 7)",
                    "put(0, 1, 0) = " + (can ? 0 : 4) + "; cell(0, 1, 0) = " + (kind <= 7 ? kind : can ? sort : 9),
                    "cell(0, 1, 1) = " + (can ? number : 0) + "; cell(0, 0, 1) = 0; cell(0, 2, 1) = 0; hand(0) = " + sort);
            }
        }
        for (int t = 0; t < 8; t++) {
            Runs.play("arrays of tags and of seals", "lay(0, 10, 1); lay(1, 11, 1); take(8, " + t + "); put(0, 0, 0) = 0",
                "cell(0, 0, 1) = " + t + "; put(1, 0, 0) = " + (t < 4 ? 4 : 0) + "; cell(1, 0, 0) = " + (t < 4 ? 9 : 8));
        }
        Runs.play("null puts out what was there", Runs.filled(0, 8, 4, 5), Runs.filled(1, 9, 7, 5), Runs.filled(2, 10, 8, 5),
            Runs.filled(3, 11, 8, 5), "take(9, 0); put(0, 0, 0) = 0; cell(0, 0, 0) = 9; put(1, 0, 0) = 0; cell(1, 0, 0) = 9",
            "put(2, 0, 0) = 0; cell(2, 0, 0) = 9; put(3, 0, 0) = 0; cell(3, 0, 0) = 9; cell(3, 0, 1) = 0");
    }

    private static void putBySort() {
        for (int kind = 0; kind <= 11; kind++) {
            for (int sort = 0; sort <= 7; sort++) {
                boolean can = kind <= 7 && fits(sort, kind);
                Runs.play("by its sort: " + sort + " into kind " + kind, "lay(0, " + kind + ", 3); take(" + sort + ", 1)",
                    "put(0, 1, 1) = " + (can ? 0 : 4) + "; cell(0, 1, 0) = " + (kind <= 7 ? kind : 9),
                    "cell(0, 1, 1) = " + (can ? 1 : 0));
            }
        }
    }

    private static void readAsItIs() {
        for (int sort = 0; sort <= 9; sort++) {
            int number = sort == 9 ? 0 : sort == 0 ? 1 : 5;
            Runs.play("an Object array gives what it holds", "lay(0, 9, 2); take(" + sort + ", 5); put(0, 1, 0) = 0; take(3, 99)",
                "cell(0, 1, 0) = " + sort + "; cell(0, 1, 1) = " + number + "; pick(0, 1, 8) = 0; hand(0) = " + sort,
                "hand(1) = " + number);
        }
    }

    private static void readBySort() {
        for (int kind = 8; kind <= 11; kind++) {
            for (int by = 0; by <= 7; by++) {
                String filling = kind <= 9 ? Runs.filled(0, kind, 4, 1, 1) : Runs.filled(0, kind, 8, 5, 5);
                Runs.play("kind " + kind + " cannot be read by " + by, filling, "pick(0, 0, " + by + ") = 4; key(0, " + by + ", 0) = 1",
                    "told(2) = NONE; take(" + by + ", 1); below(0, " + by + ", 1) = NONE");
            }
        }
    }

    private static void reasonsInTheirOrder() {
        String[] calls = {"pick(0, %d, 0)", "pick(0, %d, 8)", "put(0, %d, 0)", "put(0, %d, 1)"};
        for (String call : calls) {
            for (int i : new int[] {-1, 0, 2, 12, 2147483647, -2147483648}) {
                String asked = String.format(call, i);
                int cellReason = i != 0 ? 3 : call.endsWith("8)") ? 0 : 4;
                Runs.play("1 before all", "take(7, 1);", asked + " = 1; lay(0, 4, 1); lay(0, 14, 3);", asked + " = 1");
                Runs.play("2 before 3 and 4", "take(7, 1); lay(0, 12, 2);", asked + " = 2; lay(0, 13, 2);", asked + " = 2");
                Runs.play("3 before 4", "take(7, 1); lay(0, 4, 2); lay(0, 4, 1);", asked + " = " + cellReason);
                Runs.play("3 without cells", "take(7, 1); lay(0, 9, 0);", asked + " = 3");
            }
        }
    }

    // ---- order

    private static void keysAndSheet() {
        Runs.play("no keys and an empty sheet at first", "told(0) = 0; told(1) = 0; keyAt(0, 0) = UNKNOWN; unkey() = NOT");
        Runs.play("at most 4 keys, numbered from 0", "key(5, 0, 1) = 1; key(4, 8, 0) = 2; key(5, 7, 0) = 3; key(5, 0, 1) = 4; key(0, 0, 0) = FULL",
            "told(0) = 4; keyAt(0, 0) = 5; keyAt(0, 1) = 0; keyAt(0, 2) = 1; keyAt(1, 0) = 4; keyAt(1, 1) = 8; keyAt(1, 2) = 0",
            "keyAt(2, 1) = 7; keyAt(3, 2) = 1; keyAt(4, 0) = UNKNOWN; told(1) = 0");
    }

    private static void fit() {
        Runs.play("there must be a concerned slot", "lay(0, 4, 3); lay(1, 4, 3); told(2) = NONE; rank(0, 0) = UNKNOWN; settle() = NOT");
        for (int slot = 0; slot < 6; slot++) {
            int set = 1 << slot;
            Runs.play("slot " + slot + " is concerned", "lay(" + slot + ", 4, 5); sheet(" + set + "); told(2) = 5; sheet(0); told(2) = NONE",
                "key(" + slot + ", 8, 0); told(2) = 5; sheet(" + set + "); told(2) = 5; lay(" + slot + ", 14, 5); told(2) = NONE");
        }
        String two = "lay(0, 4, 3); lay(1, 9, 3);";
        Runs.play("all concerned slots hold arrays", two, "key(0, 8, 0); sheet(2); told(2) = 3; lay(1, 12, 3); told(2) = NONE",
            "lay(1, 13, 3); told(2) = NONE; lay(1, 14, 3); told(2) = NONE; lay(1, 0, 3); told(2) = 3; lay(0, 13, 3); told(2) = NONE",
            "sheet(0); told(2) = NONE; lay(0, 11, 3); told(2) = 3");
        Runs.play("all are of the same length", two, "key(0, 8, 0); key(1, 8, 0); told(2) = 3; lay(1, 9, 2); told(2) = NONE",
            "lay(1, 9, 4); told(2) = NONE; lay(0, 4, 4); told(2) = 4; sheet(32); told(2) = NONE; lay(5, 1, 3); told(2) = NONE",
            "lay(5, 1, 4); told(2) = 4; lay(0, 4, 0); told(2) = NONE");
        Runs.play("the slot of the fourth key, too", two, "key(0, 8, 0); key(0, 5, 0); key(1, 8, 0); key(2, 8, 0) = 4; told(2) = NONE",
            "lay(2, 4, 3); told(2) = 3; lay(2, 4, 2); told(2) = NONE; lay(2, 8, 3); told(2) = 3; unkey(); key(2, 4, 0) = 4; told(2) = NONE",
            "lay(2, 4, 3); told(2) = 3");
        Runs.play("the others may be what they will", two, "lay(2, 4, 7); lay(3, 12, 0); lay(4, 13, 0); sheet(3); told(2) = 3");
        Runs.play("the cells of each key's slot can be read so", two, "sheet(3); key(0, 4, 0); told(2) = 3; key(0, 3, 0); told(2) = NONE",
            "unkey(); key(1, 4, 0); told(2) = NONE; unkey(); key(1, 8, 1); told(2) = 3; unkey(); key(0, 7, 1); told(2) = 3",
            "lay(0, 10, 3); told(2) = NONE; unkey(); unkey(); told(2) = 3");
    }

    private static void fitWithoutCells() {
        for (int kind = 0; kind <= 14; kind++) {
            for (int by = 0; by <= 8; by++) {
                int length = kind <= 11 ? 0 : -1;
                Runs.play("unless L is 0", "lay(3, " + kind + ", 0); key(3, " + by + ", 0); told(2) = " + length,
                    "sheet(8); told(2) = " + length + "; told(4) = " + length + "; told(9) = " + length);
            }
        }
        Runs.play("of L = 0 both must be", "lay(0, 9, 0); lay(1, 4, 1); key(0, 4, 0); sheet(2); told(2) = NONE; lay(1, 4, 0); told(2) = 0");
    }

    private static void valuesAreCompared() {
        // What ascends: null, then the sorts from boolean on, though the numbers descend.
        String[] taken = {"take(9, 0)", "take(0, 0)", "take(0, 1)", "take(1, -2)", "take(1, -1)", "take(2, 0)", "take(2, 65535)",
            "take(3, -9)", "take(3, -8)", "take(4, -99)", "take(5, -999)", "take(6, -1000)"};
        for (int way = 0; way <= 1; way++) {
            StringBuilder run = new StringBuilder("lay(4, 9, 12); key(4, 8, " + way + ");");
            for (int i = 0; i < 12; i++) {
                run.append(taken[i]).append("; put(4, ").append(i).append(", 0) = 0;");
            }
            run.append("told(3) = 0; told(4) = ").append(way == 0 ? 0 : 66).append(";");
            for (int a = 0; a < 12; a++) {
                for (int b = a + 1; b < 12; b++) {
                    run.append("compare(" + a + ", " + b + ") = " + (way == 0 ? 0 : 2) + ";");
                    run.append("compare(" + b + ", " + a + ") = " + (way == 0 ? 2 : 0) + ";");
                }
            }
            Runs.play("null, lesser sort, lesser number", run.toString());
        }
        Runs.play("double, then tag", "lay(0, 9, 4); weigh(1, -1000); take(8, 1); put(0, 0, 0); take(7, 99); put(0, 1, 0)",
            "take(6, 100); put(0, 2, 0); key(0, 8, 0); compare(1, 0) = 0; compare(2, 1) = 0; compare(3, 0) = 0; compare(3, 2) = 0");
        Runs.play("nulls are alike", "lay(0, 10, 3); key(0, 8, 0); compare(0, 1) = 1; compare(2, 1) = 1; told(3) = 3");
        for (int kind = 1; kind <= 7; kind++) {
            int least = kind == 2 ? 1 : -3;
            Runs.play("numbers of kind " + kind, Runs.filled(0, kind, kind, 5, least, 5, 100), "key(0, 8, 0); compare(0, 1) = 2; compare(1, 0) = 0",
                "compare(0, 2) = 1; compare(3, 0) = 2; unkey(); key(0, " + kind + ", 0); compare(0, 1) = 2; compare(0, 2) = 1",
                "unkey(); key(0, 8, 1); compare(0, 1) = 0; compare(1, 0) = 2; compare(0, 2) = 1; compare(3, 0) = 0");
        }
        Runs.play("the ends of long", Runs.filled(0, 5, 5, 9223372036854775807L, -9223372036854775808L, -1L, 0L),
            "key(0, 8, 0); compare(0, 1) = 2; compare(1, 0) = 0; compare(1, 2) = 0; compare(2, 3) = 0; compare(3, 0) = 0");
        Runs.play("the ends of int", Runs.filled(0, 4, 4, 2147483647L, -2147483648L, -1L),
            "key(0, 8, 0); compare(0, 1) = 2; compare(1, 0) = 0; compare(1, 2) = 0; compare(2, 0) = 0");
    }

    private static void floatsAreCompared() {
        String longs = Runs.filled(0, 5, 5, 9007199254740993L, 9007199254740992L, 16777217L, 16777216L, 9223372036854775807L,
            9223372036854775296L, 9223372036854774784L);
        Runs.play("longs as longs", longs, "key(0, 5, 0); compare(0, 1) = 2; compare(2, 3) = 2; compare(4, 5) = 2; compare(5, 6) = 2");
        Runs.play("longs as doubles", longs, "key(0, 7, 0); compare(0, 1) = 1; compare(2, 3) = 2; compare(4, 5) = 1; compare(5, 6) = 2");
        Runs.play("longs as floats", longs, "key(0, 6, 0); compare(0, 1) = 1; compare(2, 3) = 1; compare(4, 5) = 1; compare(5, 6) = 1",
            "compare(3, 1) = 0; compare(1, 4) = 0");
        Runs.play("floats", Runs.filled(0, 6, 6, 16777217L, 16777216L, -5L, 9223372036854775807L), "key(0, 8, 0); compare(0, 1) = 1",
            "compare(2, 0) = 0; compare(0, 3) = 0");
        Runs.play("ints as floats and as doubles", Runs.filled(0, 4, 4, 2147483647L, 2147483646L, -2147483648L), "key(0, 6, 0)",
            "compare(0, 1) = 1; compare(2, 0) = 0; unkey(); key(0, 7, 0); compare(0, 1) = 2; unkey(); key(0, 5, 0); compare(0, 1) = 2");
    }

    private static void tagsAreCompared() {
        Runs.play("tags by heft", Runs.filled(0, 10, 8, 0, 1, 2, 3, 4, 5, 6, 7), "key(0, 8, 0); compare(0, 1) = 1; compare(1, 2) = 0",
            "compare(2, 3) = 1; compare(4, 5) = 1; compare(3, 4) = 0; compare(6, 5) = 2; weigh(3, 4); compare(3, 4) = 1",
            "weigh(3, 5); compare(3, 4) = 2; weigh(4, -1000); weigh(3, -1000); compare(4, 3) = 0; compare(4, 0) = 0; rank(4, 2) = 0");
        Runs.play("null is less than the least heft", "lay(0, 11, 2); take(8, 7); put(0, 0, 0); weigh(7, -1000); key(0, 8, 0); compare(1, 0) = 0");
        Runs.play("tags in an Object array", Runs.filled(0, 9, 8, 6, 3, 7), "key(0, 8, 0); compare(0, 1) = 2; compare(0, 2) = 1; told(4) = 1");
    }

    private static void placesAreCompared() {
        String rows = Runs.filled(0, 4, 4, 1, 1, 2, 2) + Runs.filled(1, 4, 4, 8, 7, 7, 8) + Runs.filled(2, 4, 4, 5, 5, 5, 4);
        Runs.play("the first key by which they are not alike", rows, "key(0, 8, 0); key(1, 8, 0); compare(0, 1) = 2; compare(1, 2) = 0",
            "compare(2, 3) = 0; compare(0, 3) = 0; key(2, 8, 1); compare(2, 3) = 0");
        Runs.play("in their sequence", rows, "key(1, 8, 0); key(0, 8, 0); compare(0, 1) = 2; compare(1, 2) = 0; compare(0, 2) = 2",
            "compare(0, 3) = 0");
        Runs.play("each its own way", rows, "key(0, 8, 1); key(1, 8, 0); compare(0, 1) = 2; compare(1, 2) = 2; compare(2, 3) = 0");
        Runs.play("the fourth key", rows, "key(0, 8, 0); key(0, 8, 1); key(0, 5, 0); key(1, 8, 0); compare(0, 1) = 2; compare(2, 3) = 0");
        Runs.play("alike by all keys", rows, "key(2, 8, 0); compare(0, 1) = 1; compare(3, 0) = 0; key(2, 8, 1); compare(0, 1) = 1");
        Runs.play("without keys all are alike", rows, "sheet(7); compare(0, 3) = 1; compare(3, 0) = 1; told(3) = 6; told(4) = 0; rank(3, 0) = 0");
    }

    private static void orderIsStable() {
        String row = Runs.filled(0, 4, 4, 2, 1, 2, 1, 2, 0);
        Runs.play("alike ones by their numbers", row, "key(0, 8, 0); rank(0, 4) = 5; rank(1, 4) = 1; rank(2, 4) = 3; rank(3, 4) = 0",
            "rank(4, 4) = 2; rank(5, 4) = 4; rank(0, 2) = 3; rank(1, 2) = 1; rank(2, 2) = 4; rank(3, 2) = 2; rank(4, 2) = 5; rank(5, 2) = 0");
        Runs.play("also descending", row, "key(0, 8, 1); rank(0, 4) = 0; rank(1, 4) = 2; rank(2, 4) = 4; rank(3, 4) = 1; rank(4, 4) = 3",
            "rank(5, 4) = 5");
        Runs.play("without keys as they stand", row, "sheet(1); rank(0, 2) = 0; rank(1, 2) = 1; rank(5, 2) = 5; rank(4, 4) = 4");
    }

    private static void rearranging() {
        String rows = Runs.filled(0, 4, 4, 3, 1, 2) + Runs.filled(1, 9, 3, 10, 11, 12) + Runs.filled(2, 11, 8, 7, 6, 5)
            + Runs.filled(3, 0, 0, 1, 0, 1);
        Runs.play("each array of the sheet", rows, "key(0, 8, 0); sheet(15); settle() = 3;" + Runs.holds(0, 1, 2, 3)
            + Runs.holds(1, 11, 12, 10) + Runs.holds(2, 6, 5, 7) + Runs.holds(3, 0, 1, 1), "cell(1, 0, 0) = 3; cell(2, 0, 0) = 8");
        Runs.play("only the arrays of the sheet", rows, "key(0, 8, 0); sheet(4); settle() = 3;" + Runs.holds(0, 3, 1, 2)
            + Runs.holds(1, 10, 11, 12) + Runs.holds(2, 6, 5, 7) + Runs.holds(3, 1, 0, 1), "told(4) = 2; rank(0, 2) = 2; hand(1) = 1");
        Runs.play("the keys read what was moved", rows, "key(0, 8, 0); sheet(1); settle(); told(4) = 0; rank(0, 2) = 0; keyAt(0, 0) = 0");
    }

    // ---- the book, images, codes

    private static void wrongEntries() {
        String row = Runs.filled(0, 4, 4, 3, 1, 2) + "key(0, 8, 0); write(0, 2) = 1; write(1, 0) = 2; told(13) = NONE;";
        Runs.play("it is not so now", row, "take(4, 0); put(0, 0, 0); told(13) = 0; take(4, 9); put(0, 0, 0); told(13) = NONE",
            "take(4, 5); put(0, 1, 0); told(13) = 1; undo(2); told(13) = NONE");
        Runs.play("the workbench is not fit", row, "lay(0, 12, 3); told(13) = 0; undo(1); told(13) = NONE; unkey(); told(13) = 0");
        Runs.play("there is no such place", row, "tear(); write(2, 1); write(0, 2); told(13) = NONE; lay(0, 4, 2); told(13) = 0",
            "lay(0, 4, 0); told(13) = 0; tear(); told(13) = NONE");
        Runs.play("no such place behind one that is so", row, "tear(); write(0, 0); write(2, 1); lay(0, 4, 2); told(13) = 1");
    }

    private static void imagesKeep() {
        String kept = bigScene();
        String changed = "settle(); weigh(0, 1); weigh(7, 2); unkey(); unkey(); key(2, 8, 0); sheet(9); take(7, 7); drift(12);"
            + "lay(5, 13, 0); lay(4, 14, 0); lay(0, 4, 3); seed(5);";
        List<Long> before = View.ofBench(Runs.play("images", kept));
        View.same("goBack", View.ofBench(Runs.play("images", kept, "keep(0) = 1;", changed, "goBack(0) = 1; told(15) = 4711")), before);
        View.same("the image stays", View.ofBench(Runs.play("images", kept, "keep(0) = 1;", changed, "goBack(0) = 1;", changed,
            "goBack(0) = 1; told(15) = 4711")), before);
        View.same("the other image is another one", View.ofBench(Runs.play("images", kept, "keep(1) = 1;", changed, "goBack(0) = NOT",
            "keep(0) = 1; goBack(1) = 1; told(15) = 4711")), before);
    }

    private static void imagesKeepTheFourthKey() {
        Runs.play("the fourth key", "key(0, 1, 0); key(1, 2, 0); key(2, 3, 0); key(3, 4, 1) = 4; keep(0); unkey(); key(5, 6, 0) = 4; undo(2)",
            "keyAt(3, 0) = 3; keyAt(3, 1) = 4; keyAt(3, 2) = 1; unkey(); key(5, 6, 0) = 4; goBack(0); told(0) = 4; keyAt(3, 0) = 3",
            "keyAt(3, 1) = 4; keyAt(3, 2) = 1; keyAt(0, 1) = 1; keyAt(1, 1) = 2; keyAt(2, 0) = 2");
    }

    /** Six full slots, four keys, a full sheet and changed weights. */
    static String bigScene() {
        StringBuilder scene = new StringBuilder();
        for (int slot = 0; slot < 6; slot++) {
            long[] values = new long[12];
            for (int i = 0; i < 12; i++) {
                values[i] = slot == 5 ? (i * 5 + 3) % 8 : i * 7 % 12 + slot * 20;
            }
            int sort = slot == 5 ? 8 : slot + 1;
            scene.append(Runs.filled(slot, slot == 5 ? 10 : slot == 3 ? 9 : sort, sort, values));
        }
        for (int t = 0; t < 8; t++) {
            scene.append("weigh(" + t + ", " + (100 - 30 * t) + ");");
        }
        return scene + "key(5, 8, 1); key(3, 8, 0); key(0, 7, 1); key(4, 6, 0) = 4; sheet(63) = 0; take(2, 65535); seed(4711); told(2) = 12;";
    }

    private static void noneIsNoError() {
        Runs.play("-1 means that there is none", "told(2) = NONE; told(16) = OUTSIDE; would(0, 0) = NONE; would(6, 0) = UNKNOWN",
            "below(0, 8, 0) = NONE; below(0, 8, 2) = OUTSIDE; below(6, 8, 0) = UNKNOWN; below(0, 9, 0) = OUTSIDE");
    }
}
