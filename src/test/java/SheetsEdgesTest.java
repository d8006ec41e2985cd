/** Part 5 and promises 23 to 33, sentence by sentence: where each boundary is, on both sides. */
public final class SheetsEdgesTest {
    private static final Check CHECK = new Check();
    private static final Scene BARE = Scene.bare(CHECK), SOME = Scene.some(CHECK), FULL = Scene.full(CHECK);
    private static final int MIN = Integer.MIN_VALUE, MAX = Integer.MAX_VALUE;
    private static final long LOST = Scene.LOST;

    public static void main(String[] args) {
        sheetRefusals();
        sheetSizes();
        sheetAnew();
        loseEdges();
        putRefusals();
        putFaults();
        putPlaces();
        putIsCut();
        cellRefusals();
        cellFaults();
        cellPlaces();
        copyUnknown();
        copyNull();
        copyCast();
        copyIndex();
        copyOfNone();
        copyOfAll();
        copyOntoItself();
        copyKeepsTheRest();
        tellRefusals();
        tellOfEachKind();
        traceWraps();
        tieRefusals();
        tieOfEachKind();
        asRefusals();
        asOfEachKind();
        faultOfTheLatest();
        faultsOfOtherCalls();
        manyEdges();
        CHECK.end();
    }

    private static void due(String call, long got, long want) {
        CHECK.due(call, got, want);
    }

    // ---- promise 23: sheet

    private static void sheetRefusals() {
        for (int k : Scene.beyond(0, 3)) {
            FULL.keepsFaultless("sheet " + k, x -> x.sheet(k, 0, 1), -1);
            FULL.keepsFaultless("unknown ahead of outside and size: " + k, x -> x.sheet(k, 3, -1), -1);
            BARE.keepsFaultless("unknown ahead of outside: " + k, x -> x.sheet(k, 0, 51), -1);
        }
        for (int lane : Scene.beyond(0, 2)) {
            for (int n : new int[] {0, 50, 51, -1, MIN}) {
                FULL.keepsFaultless("outside ahead of size: lane " + lane + ", " + n, x -> x.sheet(0, lane, n), -2);
                BARE.keepsFaultless("outside ahead of size: lane " + lane + ", " + n, x -> x.sheet(0, lane, n), -2);
            }
        }
        for (int n : new int[] {51, 52, MAX}) {
            for (int k = 0; k < 4; k++) {
                int sheet = k;
                FULL.keepsFaultless("sheet " + k + " of " + n, x -> x.sheet(sheet, 2, n), -2);
            }
        }
        for (int n : new int[] {-1, -50, MIN}) {
            for (int k = 0; k < 4; k++) {
                int sheet = k;
                FULL.fails("sheet " + k + " of " + n, x -> x.sheet(sheet, 2, n), 4);
            }
            BARE.fails("sheet of " + n, x -> x.sheet(0, 0, n), 4);
        }
    }

    private static void sheetSizes() {
        for (int k = 0; k < 4; k++) {
            for (int lane = 0; lane < 3; lane++) {
                for (int n : new int[] {0, 1, 49, 50}) {
                    VineGarden x = new VineGarden();
                    due("sheet", x.sheet(k, lane, n), 1);
                    due("no fault", x.fault(), 0);
                    for (int i = 0; i < n; i++) {
                        due("0 at first", x.cell(k, i, lane), 0);
                    }
                    due("no cell more", x.cell(k, n, lane), LOST);
                    due("beyond", x.fault(), 3);
                    due("it has something", x.lose(k), 1);
                }
            }
        }
    }

    private static void sheetAnew() {
        VineGarden x = FULL.make();
        due("anew, of the same lane", x.sheet(1, 1, 3), 1);
        for (int i = 0; i < 3; i++) {
            due("0 again", x.cell(1, i, 1), 0);
        }
        due("anew, shorter, of another lane", x.sheet(0, 2, 2), 1);
        due("0 again", x.cell(0, 0, 2), 0);
        due("no bytes any more", x.cell(0, 0, 0), LOST);
        due("cast", x.fault(), 2);
        due("shorter", x.cell(0, 2, 2), LOST);
        due("index", x.fault(), 3);
        x.put(0, 1, MAX);
        due("longer again", x.sheet(0, 2, 50), 1);
        for (int i = 0; i < 50; i++) {
            due("0 at first", x.cell(0, i, 2), 0);
        }
        due("the garden stays", x.many(0), 30);
        due("the others stay", x.lose(3), 0);
    }

    // ---- promise 24: lose

    private static void loseEdges() {
        for (int k : Scene.beyond(0, 3)) {
            FULL.keeps("lose " + k, x -> x.lose(k), -1);
            BARE.keeps("lose " + k, x -> x.lose(k), -1);
        }
        FULL.keeps("lose nothing", x -> x.lose(3), 0);
        for (int k = 0; k < 4; k++) {
            int sheet = k;
            BARE.keeps("lose nothing", x -> x.lose(sheet), 0);
        }
        for (int k = 0; k < 3; k++) {
            VineGarden x = FULL.make();
            due("it had something: no ints, too", x.lose(k), 1);
            due("no fault is named", x.fault(), 3);
            due("it has nothing", x.lose(k), 0);
            due("null", x.put(k, 0, 0), -11);
            due("the garden stays", x.many(0), 30);
            due("anew", x.sheet(k, 0, 50), 1);
            due("with zeros", x.cell(k, 0, 0), 0);
            for (int other = 0; other < 3; other++) {
                due("others have something", x.lose(other), 1);
            }
        }
    }

    // ---- promise 25: put

    private static void putRefusals() {
        for (int k : Scene.beyond(0, 3)) {
            FULL.keepsFaultless("put into " + k, x -> x.put(k, 0, 7), -1);
            FULL.keepsFaultless("unknown ahead of index: " + k, x -> x.put(k, -1, 7), -1);
            BARE.keepsFaultless("unknown ahead of null: " + k, x -> x.put(k, 0, 7), -1);
        }
    }

    private static void putFaults() {
        for (int i : new int[] {0, -1, 50, MIN, MAX}) {
            FULL.fails("null ahead of index: " + i, x -> x.put(3, i, 7), 1);
            for (int k = 0; k < 4; k++) {
                int sheet = k;
                BARE.fails("null: " + i, x -> x.put(sheet, i, 7), 1);
            }
        }
        for (int i : Scene.beyond(0, 49)) {
            FULL.fails("put at " + i, x -> x.put(0, i, 7), 3);
        }
        for (int i : Scene.beyond(0, 2)) {
            FULL.fails("put at " + i, x -> x.put(1, i, 7), 3);
        }
        for (int i : new int[] {0, -1, 1, MIN, MAX}) {
            FULL.fails("put into no ints at " + i, x -> x.put(2, i, 7), 3);
        }
    }

    private static void putPlaces() {
        VineGarden x = FULL.make();
        due("the first one", x.put(0, 0, 1), 1);
        due("no fault", x.fault(), 0);
        due("the last one", x.put(0, 49, 2), 1);
        due("the first one is", x.cell(0, 0, 0), 1);
        due("the last one is", x.cell(0, 49, 0), 2);
        due("the second one stays", x.cell(0, 1, 0), '5');
        due("the last but one stays", x.cell(0, 48, 0), 0);
        due("other sheets stay", x.cell(1, 0, 1), -300);
        due("the garden stays", x.sign(0), 0);
    }

    private static void putIsCut() {
        int[][] bytes = {{-129, 127}, {-128, -128}, {-1, -1}, {0, 0}, {127, 127}, {128, -128}, {255, -1}, {256, 0},
            {300, 44}, {-300, -44}, {32767, -1}, {65536, 0}, {MAX, -1}, {MIN, 0}, {MIN + 127, 127}};
        int[][] shorts = {{-32769, 32767}, {-32768, -32768}, {-129, -129}, {128, 128}, {255, 255}, {32767, 32767},
            {32768, -32768}, {65535, -1}, {65536, 0}, {100000, -31072}, {MAX, -1}, {MIN, 0}};
        int[][] ints = {{-32769, -32769}, {128, 128}, {32768, 32768}, {65536, 65536}, {MAX, MAX}, {MIN, MIN}, {-1, -1}};
        int[][][] lanes = {bytes, shorts, ints};
        for (int lane = 0; lane < 3; lane++) {
            VineGarden x = new VineGarden();
            x.sheet(0, lane, 2);
            for (int[] pair : lanes[lane]) {
                due("put " + pair[0], x.put(0, 1, pair[0]), 1);
                due(pair[0] + " in lane " + lane, x.cell(0, 1, lane), pair[1]);
                due("the other cell", x.cell(0, 0, lane), 0);
            }
        }
    }

    // ---- promise 26: cell

    private static void cellRefusals() {
        for (int k : Scene.beyond(0, 3)) {
            FULL.keepsFaultless("cell of " + k, x -> x.cell(k, 0, 0), LOST);
            FULL.keepsFaultless("unknown ahead of all: " + k, x -> x.cell(k, -1, 3), LOST);
        }
        for (int lane : Scene.beyond(0, 2)) {
            for (int k = 0; k < 4; k++) {
                int sheet = k;
                FULL.keepsFaultless("outside ahead of faults: " + lane, x -> x.cell(sheet, -1, lane), LOST);
            }
            BARE.keepsFaultless("outside ahead of null: " + lane, x -> x.cell(0, 0, lane), LOST);
        }
    }

    private static void cellFaults() {
        for (int k = 0; k < 3; k++) {
            for (int lane = 0; lane < 3; lane++) {
                int sheet = k;
                int as = lane;
                for (int i : new int[] {0, -1, 50, MIN, MAX}) {
                    if (as != sheet) {
                        FULL.loses("cast ahead of index: " + i, x -> x.cell(sheet, i, as), 2);
                    }
                    FULL.loses("nothing is no cast: " + i, x -> x.cell(3, i, as), 1);
                    BARE.loses("nothing is no cast: " + i, x -> x.cell(sheet, i, as), 1);
                }
            }
        }
        for (int i : Scene.beyond(0, 49)) {
            FULL.loses("bytes at " + i, x -> x.cell(0, i, 0), 3);
        }
        for (int i : Scene.beyond(0, 2)) {
            FULL.loses("shorts at " + i, x -> x.cell(1, i, 1), 3);
        }
        for (int i : new int[] {0, -1, 1, MIN, MAX}) {
            FULL.loses("no ints at " + i, x -> x.cell(2, i, 2), 3);
        }
    }

    private static void cellPlaces() {
        FULL.keepsFaultless("the first byte", x -> x.cell(0, 0, 0), 'g');
        FULL.keepsFaultless("the last byte", x -> x.cell(0, 49, 0), 0);
        FULL.keepsFaultless("the first short", x -> x.cell(1, 0, 1), -300);
        FULL.keepsFaultless("the last short", x -> x.cell(1, 2, 1), -302);
    }

    // ---- promise 27: copy

    private static void copyUnknown() {
        for (int k : Scene.beyond(0, 3)) {
            FULL.keepsFaultless("from " + k, x -> x.copy(k, 0, 0, 0, 1), -1);
            FULL.keepsFaultless("to " + k, x -> x.copy(0, 0, k, 0, 1), -1);
            FULL.keepsFaultless("unknown ahead of null: from " + k, x -> x.copy(k, -1, 3, -1, -1), -1);
            FULL.keepsFaultless("unknown ahead of null: to " + k, x -> x.copy(3, -1, k, -1, -1), -1);
            BARE.keepsFaultless("unknown, both: " + k, x -> x.copy(k, 0, k, 0, 0), -1);
        }
    }

    private static void copyNull() {
        for (int k = 0; k < 3; k++) {
            int sheet = k;
            FULL.fails("null, the first", x -> x.copy(3, 0, sheet, 0, 0), 1);
            FULL.fails("null, the other", x -> x.copy(sheet, 0, 3, 0, 0), 1);
            FULL.fails("null ahead of index", x -> x.copy(3, -1, sheet, -1, -1), 1);
            FULL.fails("null ahead of index", x -> x.copy(sheet, -1, 3, -1, -1), 1);
        }
        FULL.fails("null, both", x -> x.copy(3, 0, 3, 0, 0), 1);
        BARE.fails("null, both", x -> x.copy(0, 0, 1, 0, 0), 1);
    }

    private static void copyCast() {
        for (int k = 0; k < 3; k++) {
            for (int other = 0; other < 3; other++) {
                int from = k;
                int to = other;
                if (from != to) {
                    FULL.fails("cast " + from + " to " + to, x -> x.copy(from, 0, to, 0, 0), 2);
                    FULL.fails("cast ahead of index", x -> x.copy(from, -1, to, -1, -1), 2);
                    FULL.fails("cast ahead of index", x -> x.copy(from, MAX, to, MAX, MAX), 2);
                }
            }
        }
    }

    private static void copyIndex() {
        int[][] places = {{-1, 0, 0}, {0, -1, 0}, {0, 0, -1}, {51, 0, 0}, {0, 51, 0}, {50, 0, 1}, {0, 50, 1},
            {0, 0, 51}, {1, 0, 50}, {0, 1, 50}, {49, 0, 2}, {0, 49, 2}, {-1, -1, -1}, {-1, 0, 1}, {0, -1, 1},
            {MIN, 0, 0}, {0, MIN, 0}, {0, 0, MIN}, {MAX, 0, 0}, {0, MAX, 0}, {0, 0, MAX}, {MIN, MIN, MIN},
            {MAX, MAX, MAX}, {1, 1, MAX}, {MAX, 0, 1}, {0, MAX, 1}, {MAX, 0, MIN}, {50, 50, -1}, {2, 2, -1}};
        for (int[] p : places) {
            String call = p[2] + " from " + p[0] + " to " + p[1];
            FULL.fails(call, x -> x.copy(0, p[0], 0, p[1], p[2]), 3);
        }
        FULL.fails("one of no ints", x -> x.copy(2, 0, 2, 0, 1), 3);
        FULL.fails("none of no ints, from 1", x -> x.copy(2, 1, 2, 0, 0), 3);
        FULL.fails("none of no ints, to 1", x -> x.copy(2, 0, 2, 1, 0), 3);
        VineGarden x = new VineGarden();
        x.sheet(0, 1, 5);
        x.sheet(3, 1, 2);
        due("three into two", x.copy(0, 0, 3, 0, 3), -13);
        due("three of two", x.copy(3, 0, 0, 0, 3), -13);
        due("two, from the last but one", x.copy(0, 3, 3, 0, 2), 2);
        due("two, from the last one", x.copy(0, 4, 3, 0, 2), -13);
        due("two, to the last one", x.copy(0, 0, 3, 1, 2), -13);
        due("its fault", x.fault(), 3);
    }

    private static void copyOfNone() {
        int[] places = {0, 1, 25, 49, 50};
        for (int i : places) {
            for (int j : places) {
                FULL.keepsFaultless("none from " + i + " to " + j, x -> x.copy(0, i, 0, j, 0), 0);
            }
        }
        FULL.keepsFaultless("none of no ints", x -> x.copy(2, 0, 2, 0, 0), 0);
        FULL.keepsFaultless("all onto where they are", x -> x.copy(0, 0, 0, 0, 50), 50);
        FULL.keepsFaultless("the last one onto itself", x -> x.copy(1, 2, 1, 2, 1), 1);
    }

    private static void copyOfAll() {
        for (int lane = 0; lane < 3; lane++) {
            VineGarden x = new VineGarden();
            x.sheet(1, lane, 50);
            x.sheet(2, lane, 50);
            for (int i = 0; i < 50; i++) {
                x.put(1, i, i % 2 == 0 ? i : -i);
            }
            due("all", x.copy(1, 0, 2, 0, 50), 50);
            due("no fault", x.fault(), 0);
            for (int i = 0; i < 50; i++) {
                due("as it was, with its sign: " + i, x.cell(2, i, lane), i % 2 == 0 ? i : -i);
                due("the first stays: " + i, x.cell(1, i, lane), i % 2 == 0 ? i : -i);
            }
            x.put(1, 0, 99);
            due("a row of its own", x.cell(2, 0, lane), 0);
            due("the last one to the first place", x.copy(1, 49, 2, 0, 1), 1);
            due("there it is", x.cell(2, 0, lane), -49);
            due("the first one to the last place", x.copy(1, 0, 2, 49, 1), 1);
            due("there it is", x.cell(2, 49, lane), 99);
        }
    }

    private static void copyOntoItself() {
        for (int from = 0; from <= 6; from++) {
            for (int to = 0; to <= 6; to++) {
                for (int n = 0; n <= 6 - Math.max(from, to); n++) {
                    VineGarden x = new VineGarden();
                    x.sheet(0, 0, 6);
                    for (int i = 0; i < 6; i++) {
                        x.put(0, i, 10 + i);
                    }
                    due("copy", x.copy(0, from, 0, to, n), n);
                    for (int i = 0; i < 6; i++) {
                        boolean is = i >= to && i < to + n;
                        String call = n + " from " + from + " to " + to + ": " + i;
                        due(call, x.cell(0, i, 0), is ? 10 + i - to + from : 10 + i);
                    }
                }
            }
        }
    }

    private static void copyKeepsTheRest() {
        VineGarden x = FULL.make();
        x.sheet(3, 0, 4);
        for (int i = 0; i < 4; i++) {
            x.put(3, i, -1);
        }
        due("two", x.copy(0, 0, 3, 1, 2), 2);
        long[] wants = {-1, 'g', '5', -1};
        for (int i = 0; i < 4; i++) {
            due("the other one's " + i, x.cell(3, i, 0), wants[i]);
        }
        due("the first one's", x.cell(0, 1, 0), '5');
        due("the garden stays", x.many(0), 30);
    }

    // ---- promises 28 and 31: tell, trace

    private static void tellRefusals() {
        for (int v : Scene.beyond(0, 2)) {
            FULL.keeps("tell " + v, x -> x.tell(v), -1);
        }
        for (int v : Scene.beyond(0, 0)) {
            SOME.keeps("tell " + v, x -> x.tell(v), -1);
        }
        for (int v : new int[] {-1, 0, 1, MIN, MAX}) {
            BARE.keeps("tell " + v, x -> x.tell(v), -1);
        }
        BARE.keeps("trace", x -> x.trace(), 0);
        SOME.keeps("trace", x -> x.trace(), 4);
        FULL.keeps("trace", x -> x.trace(), traceOf(3, 2, 1, 1));
    }

    private static int traceOf(int... numbers) {
        long trace = 0;
        for (int number : numbers) {
            trace = Math.floorMod(31 * trace + number, 1L << 32);
        }
        return trace >= 1L << 31 ? (int) (trace - (1L << 32)) : (int) trace;
    }

    private static void tellOfEachKind() {
        for (int c : new int[] {0, 1, 29}) {
            VineGarden x = Check.sown("g56;......;......;......;......;......");
            x.vine(0, c, 0);
            due("vine", x.tell(0), c);
            due("its trace", x.trace(), 1);
            VineGarden y = Check.sown("g56;......;......;......;......;......");
            y.vine(1, c, 0);
            due("climber", y.tell(0), c + 100);
            due("its trace", y.trace(), 63);
            VineGarden z = Check.sown("g56;......;......;......;......;......");
            z.vine(2, c, 0);
            due("rambler", z.tell(0), c + 100 + c);
            due("its trace", z.trace(), 31 * (31 * (31 * 3 + 2) + 1) + 1);
            due("only trace changes", z.many(2), 1);
            due("where it is planted", z.ofVine(0, 1), c);
        }
    }

    private static void traceWraps() {
        VineGarden x = FULL.make();
        int[] numbers = new int[4 + 4 * 8];
        int many = 0;
        for (int number : new int[] {3, 2, 1, 1}) {
            numbers[many] = number;
            many++;
        }
        boolean below = false;
        for (int k = 0; k < 8; k++) {
            due("rambler", x.tell(2), 152);
            for (int number : new int[] {3, 2, 1, 1}) {
                numbers[many] = number;
                many++;
            }
            due("trace", x.trace(), traceOf(java.util.Arrays.copyOf(numbers, many)));
            below = below || x.trace() < 0;
        }
        CHECK.holds("it was below 0 once", below);
    }

    // ---- promise 29: tie

    private static void tieRefusals() {
        for (int v : Scene.beyond(0, 2)) {
            FULL.keeps("tie " + v, x -> x.tie(v), -1);
        }
        for (int v : Scene.beyond(0, 0)) {
            SOME.keeps("tie " + v, x -> x.tie(v), -1);
        }
        for (int v : new int[] {-1, 0, 1, MIN, MAX}) {
            BARE.keeps("tie " + v, x -> x.tie(v), -1);
        }
    }

    private static void tieOfEachKind() {
        for (int place = 0; place < 3; place++) {
            for (int kind = 0; kind < 3; kind++) {
                VineGarden x = Check.sown("g13;...");
                for (int v = 0; v <= place; v++) {
                    x.vine(v == place ? kind : 2 - kind, v, 1);
                }
                due("kind " + kind + " at " + place, x.tie(place), kind == 2 ? 30 : place);
                due("its trace", x.trace(), kind == 2 ? 5 : 4);
            }
        }
    }

    // ---- promise 30: as

    private static void asRefusals() {
        for (int v : Scene.beyond(0, 2)) {
            FULL.keepsFaultless("vine " + v, x -> x.as(v, 0), -1);
            FULL.keepsFaultless("unknown ahead of outside: " + v, x -> x.as(v, 3), -1);
        }
        for (int v : Scene.beyond(0, 0)) {
            SOME.keepsFaultless("vine " + v, x -> x.as(v, 2), -1);
        }
        for (int kind : Scene.beyond(0, 2)) {
            for (int v = 0; v < 3; v++) {
                int of = v;
                FULL.keepsFaultless("as " + kind, x -> x.as(of, kind), -2);
            }
            BARE.keepsFaultless("unknown, as " + kind, x -> x.as(0, kind), -1);
        }
    }

    private static void asOfEachKind() {
        // In the full scene the number of a vine is its kind, too.
        FULL.keepsFaultless("a vine as a vine", x -> x.as(0, 0), 1);
        FULL.fails("a vine as a climber", x -> x.as(0, 1), 2);
        FULL.fails("a vine as a rambler", x -> x.as(0, 2), 2);
        FULL.keepsFaultless("a climber as a vine", x -> x.as(1, 0), 1);
        FULL.keepsFaultless("a climber as a climber", x -> x.as(1, 1), 1);
        FULL.fails("a climber as a rambler", x -> x.as(1, 2), 2);
        FULL.keepsFaultless("a rambler as a vine", x -> x.as(2, 0), 1);
        FULL.keepsFaultless("a rambler as a climber", x -> x.as(2, 1), 1);
        FULL.keepsFaultless("a rambler as a rambler", x -> x.as(2, 2), 1);
    }

    // ---- promise 32: fault

    /** Each of the six calls that name faults, after a fault: by an answer it is 0 again. */
    private static void faultOfTheLatest() {
        BARE.keeps("fault", x -> x.fault(), 1);
        SOME.keeps("fault", x -> x.fault(), 2);
        FULL.keeps("fault", x -> x.fault(), 3);
        VineGarden x = new VineGarden();
        due("ahead of any", x.fault(), 0);
        due("size", x.sheet(0, 0, -1), -14);
        due("fault of sheet", x.fault(), 4);
        due("asked twice", x.fault(), 4);
        due("sheet", x.sheet(0, 0, 8), 1);
        due("none", x.fault(), 0);
        due("put fails", x.put(0, 8, 1), -13);
        due("fault of put", x.fault(), 3);
        due("put", x.put(0, 7, 1), 1);
        due("none", x.fault(), 0);
        due("cell fails", x.cell(0, 0, 1), LOST);
        due("fault of cell", x.fault(), 2);
        due("cell", x.cell(0, 7, 0), 1);
        due("none", x.fault(), 0);
        due("copy fails", x.copy(0, 0, 1, 0, 1), -11);
        due("fault of copy", x.fault(), 1);
        due("copy", x.copy(0, 0, 0, 1, 1), 1);
        due("none", x.fault(), 0);
        due("garden fails", x.garden(0, 0, 0, -1), -14);
        due("fault of garden", x.fault(), 4);
        due("a text that fails comes to no fault", x.garden(0, 0, 0, 8), -100);
        due("none", x.fault(), 0);
        due("garden fails", x.garden(0, 0, 0, 9), -13);
        due("fault of garden", x.fault(), 3);
        due("garden", Check.sow(x, "g12;.."), 2);
        due("none", x.fault(), 0);
        x.vine(1, 0, 1);
        due("as fails", x.as(0, 2), -12);
        due("fault of as", x.fault(), 2);
        due("as", x.as(0, 1), 1);
        due("none", x.fault(), 0);
    }

    /** A call that names no faults leaves the latest one, when it changes something, too. */
    private static void faultsOfOtherCalls() {
        VineGarden x = FULL.make();
        x.back(8);
        due("back", x.fault(), 3);
        x.reading(0, 0, 0);
        due("reading", x.fault(), 3);
        x.set(29, 0);
        due("set", x.fault(), 3);
        x.pull(1);
        due("pull", x.fault(), 3);
        x.vine(0, 29, 0);
        due("vine", x.fault(), 3);
        x.frost(3, true);
        due("frost", x.fault(), 3);
        x.tell(1);
        due("tell", x.fault(), 3);
        x.tie(1);
        due("tie", x.fault(), 3);
        x.lose(0);
        due("lose", x.fault(), 3);
    }

    // ---- promise 33: many

    private static void manyEdges() {
        for (Scene scene : new Scene[] {BARE, SOME, FULL}) {
            for (int what : Scene.beyond(0, 3)) {
                scene.keeps("many " + what, x -> x.many(what), -2);
            }
        }
        int[][] wants = {{0, 0, 0, 0}, {6, 3, 1, 2}, {30, 6, 3, 8}};
        Scene[] scenes = {BARE, SOME, FULL};
        for (int s = 0; s < 3; s++) {
            for (int what = 0; what < 4; what++) {
                int asked = what;
                scenes[s].keeps("many " + what, x -> x.many(asked), wants[s][what]);
            }
        }
        VineGarden least = Check.sown("g12;..");
        due("cells", least.many(0), 2);
        due("wide", least.many(1), 2);
    }
}
