/** Promises 23 to 32: sheets, telling, ties, trace, faults. */
public final class SheetsTest {
    private static final Check CHECK = new Check();
    private static final long LOST = Long.MIN_VALUE;
    private static final int MIN = Integer.MIN_VALUE, MAX = Integer.MAX_VALUE;

    public static void main(String[] args) {
        sheets();
        loses();
        puts();
        cells();
        copies();
        copyFaults();
        tells();
        ties();
        kinds();
        faultsOfOtherCalls();
        CHECK.end();
    }

    private static void due(String call, long got, long want) {
        CHECK.due(call, got, want);
    }

    private static void sheets() {
        VineGarden x = new VineGarden();
        due("sheet -1", x.sheet(-1, 9, -1), -1);
        due("sheet 4", x.sheet(4, 0, 0), -1);
        due("lane -1", x.sheet(0, -1, -1), -2);
        due("lane 3", x.sheet(0, 3, 0), -2);
        due("51", x.sheet(0, 0, 51), -2);
        due("greatest", x.sheet(0, 0, MAX), -2);
        due("no fault", x.fault(), 0);
        due("size", x.sheet(0, 0, -1), -14);
        due("its fault", x.fault(), 4);
        due("size least", x.sheet(0, 0, MIN), -14);
        due("refused", x.sheet(-1, 0, -1), -1);
        due("its fault", x.fault(), 0);
        due("still nothing", x.lose(0), 0);
        due("50", x.sheet(3, 2, 50), 1);
        due("0 at first", x.cell(3, 49, 2), 0);
        due("fifty", x.cell(3, 50, 2), LOST);
        x.put(3, 49, 5);
        x.put(3, 0, 5);
        due("refused", x.sheet(3, 0, 51), -2);
        due("size", x.sheet(3, 0, -1), -14);
        due("as before", x.cell(3, 49, 2), 5);
        due("anew", x.sheet(3, 2, 50), 1);
        due("0 again", x.cell(3, 49, 2), 0);
        due("0 again", x.cell(3, 0, 2), 0);
        due("no cells", x.sheet(3, 1, 0), 1);
        due("not one", x.cell(3, 0, 1), LOST);
        due("index", x.fault(), 3);
    }

    private static void loses() {
        VineGarden x = new VineGarden();
        x.sheet(2, 1, 0);
        due("-1", x.lose(-1), -1);
        due("4", x.lose(4), -1);
        due("it had", x.lose(2), 1);
        due("it had nothing", x.lose(2), 0);
        due("null", x.put(2, 0, 0), -11);
    }

    private static void puts() {
        VineGarden x = new VineGarden();
        due("-1", x.put(-1, -1, 0), -1);
        due("4", x.put(4, 0, 0), -1);
        due("null", x.put(0, -1, 0), -11);
        due("its fault", x.fault(), 1);
        x.sheet(0, 0, 2);
        due("index -1", x.put(0, -1, 7), -13);
        due("index 2", x.put(0, 2, 7), -13);
        due("its fault", x.fault(), 3);
        due("index least", x.put(0, MIN, 7), -13);
        due("put", x.put(0, 1, 7), 1);
        due("no fault", x.fault(), 0);
        due("cell 0", x.cell(0, 0, 0), 0);
        due("cell 1", x.cell(0, 1, 0), 7);
        int[] numbers = {127, 128, -128, -129, 255, 256, 32767, 32768, -32769, 65535, 65536, MAX, MIN};
        for (int lane = 0; lane < 3; lane++) {
            x.sheet(1, lane, 1);
            for (int v : numbers) {
                x.put(1, 0, v);
                long want = lane == 0 ? (byte) v : lane == 1 ? (short) v : v;
                due(v + " in lane " + lane, x.cell(1, 0, lane), want);
            }
        }
    }

    private static void cells() {
        VineGarden x = new VineGarden();
        x.sheet(0, 1, 2);
        x.put(0, 1, -3);
        due("cell", x.cell(0, 1, 1), -3);
        due("no fault", x.fault(), 0);
        due("cast", x.cell(0, 9, 2), LOST);
        due("its fault", x.fault(), 2);
        due("-1", x.cell(-1, 0, 0), LOST);
        due("no fault", x.fault(), 0);
        due("null", x.cell(1, 9, 2), LOST);
        due("its fault", x.fault(), 1);
        due("lane 3", x.cell(0, 0, 3), LOST);
        due("no fault", x.fault(), 0);
        due("index", x.cell(0, 2, 1), LOST);
        due("its fault", x.fault(), 3);
        due("lane -1", x.cell(1, 0, -1), LOST);
        due("no fault", x.fault(), 0);
        due("index -1", x.cell(0, -1, 1), LOST);
        due("its fault", x.fault(), 3);
        due("4", x.cell(4, 0, 0), LOST);
        due("no fault", x.fault(), 0);
    }

    private static void copies() {
        VineGarden x = new VineGarden();
        x.sheet(0, 2, 5);
        x.sheet(1, 2, 3);
        for (int i = 0; i < 5; i++) {
            x.put(0, i, 10 + i);
        }
        due("to another one", x.copy(0, 2, 1, 1, 2), 2);
        int[] other = {0, 12, 13};
        for (int i = 0; i < 3; i++) {
            due("of the other one " + i, x.cell(1, i, 2), other[i]);
        }
        due("to itself, on", x.copy(0, 0, 0, 1, 4), 4);
        int[] on = {10, 10, 11, 12, 13};
        for (int i = 0; i < 5; i++) {
            due("as they were " + i, x.cell(0, i, 2), on[i]);
        }
        due("to itself, back", x.copy(0, 2, 0, 0, 3), 3);
        int[] back = {11, 12, 13, 12, 13};
        for (int i = 0; i < 5; i++) {
            due("as they were " + i, x.cell(0, i, 2), back[i]);
        }
        due("none", x.copy(0, 5, 1, 3, 0), 0);
        due("no fault", x.fault(), 0);
    }

    private static void copyFaults() {
        VineGarden x = new VineGarden();
        x.sheet(0, 2, 5);
        x.sheet(1, 2, 3);
        x.sheet(2, 1, 3);
        x.put(0, 0, 4);
        due("-1", x.copy(-1, -1, 3, -1, -1), -1);
        due("other 4", x.copy(3, -1, 4, -1, -1), -1);
        due("null, the first", x.copy(3, -1, 2, -1, -1), -11);
        due("null, the other", x.copy(0, -1, 3, -1, -1), -11);
        due("its fault", x.fault(), 1);
        due("cast", x.copy(0, -1, 2, -1, -1), -12);
        due("its fault", x.fault(), 2);
        due("i -1", x.copy(0, -1, 1, 0, 1), -13);
        due("its fault", x.fault(), 3);
        due("j -1", x.copy(0, 0, 1, -1, 1), -13);
        due("n -1", x.copy(0, 0, 1, 0, -1), -13);
        due("i beyond", x.copy(0, 5, 1, 0, 1), -13);
        due("j beyond", x.copy(0, 0, 1, 3, 1), -13);
        due("n beyond", x.copy(0, 0, 1, 0, 4), -13);
        due("none, i beyond", x.copy(0, 6, 1, 0, 0), -13);
        due("none, j beyond", x.copy(0, 0, 1, 4, 0), -13);
        due("none, i below", x.copy(0, -1, 1, 0, 0), -13);
        due("greatest", x.copy(0, MAX, 1, MAX, MAX), -13);
        due("greatest n", x.copy(0, 1, 1, 1, MAX), -13);
        due("least", x.copy(0, MIN, 1, MIN, MIN), -13);
        for (int i = 0; i < 3; i++) {
            due("as before", x.cell(1, i, 2), 0);
        }
        x.copy(0, 0, 1, 0, 4);
        due("refused", x.copy(0, 0, -1, 0, 4), -1);
        due("no fault", x.fault(), 0);
    }

    private static int traceOf(int... numbers) {
        int trace = 0;
        for (int number : numbers) {
            trace = 31 * trace + number;
        }
        return trace;
    }

    private static void tells() {
        VineGarden x = Check.sown("g14;...x");
        x.vine(0, 1, 0);
        x.vine(1, 2, 0);
        x.vine(2, 3, 0);
        due("-1", x.tell(-1), -1);
        due("3", x.tell(3), -1);
        due("no trace", x.trace(), 0);
        due("vine", x.tell(0), 1);
        due("its trace", x.trace(), traceOf(1));
        due("climber", x.tell(1), 102);
        due("its trace", x.trace(), traceOf(1, 2, 1));
        due("rambler", x.tell(2), 106);
        due("its trace", x.trace(), traceOf(1, 2, 1, 3, 2, 1, 1));
        x.tip(2, 50);
        due("where it is planted", x.tell(2), 106);
        due("it wraps", x.trace(), traceOf(1, 2, 1, 3, 2, 1, 1, 3, 2, 1, 1));
    }

    private static void ties() {
        VineGarden x = Check.sown("g14;...x");
        x.vine(1, 1, 0);
        x.vine(2, 2, 0);
        x.vine(0, 0, 0);
        due("-1", x.tie(-1), -1);
        due("3", x.tie(3), -1);
        due("no trace", x.trace(), 0);
        due("climber", x.tie(0), 0);
        due("its trace", x.trace(), traceOf(4));
        due("rambler", x.tie(1), 30);
        due("its trace", x.trace(), traceOf(4, 5));
        due("vine", x.tie(2), 2);
        due("its trace", x.trace(), traceOf(4, 5, 4));
    }

    private static void kinds() {
        VineGarden x = Check.sown("g14;...x");
        for (int kind = 0; kind < 3; kind++) {
            x.vine(kind, kind, 0);
        }
        for (int v = 0; v < 3; v++) {
            for (int kind = 0; kind < 3; kind++) {
                boolean is = v >= kind;
                due(v + " as " + kind, x.as(v, kind), is ? 1 : -12);
                due("its fault", x.fault(), is ? 0 : 2);
            }
        }
        x.as(0, 2);
        due("vine -1", x.as(-1, 9), -1);
        due("no fault", x.fault(), 0);
        due("vine 3", x.as(3, 0), -1);
        x.as(0, 2);
        due("kind -1", x.as(0, -1), -2);
        due("no fault", x.fault(), 0);
        due("kind 3", x.as(0, 3), -2);
        due("no trace", x.trace(), 0);
    }

    /** A call that names no faults leaves the latest fault as it is, refused or not. */
    private static void faultsOfOtherCalls() {
        VineGarden x = Check.sown("g13;..x");
        x.vine(0, 0, 1);
        x.put(1, 0, 0);
        due("fault", x.fault(), 1);
        x.sign(0);
        x.sign(-1);
        x.set(1, 0);
        x.vine(0, 9, 9);
        x.ofVine(0, 9);
        x.frost(0, false);
        x.tip(0, 0);
        x.leaves(9, 9);
        x.ends(0, 0);
        x.law(0, 0);
        x.odds(0, 0, 0, 0);
        x.reading(0, 0, 0);
        x.back(1);
        x.lose(1);
        x.lose(9);
        x.tell(0);
        x.tie(0);
        x.trace();
        x.many(9);
        x.pull(0);
        due("fault stays", x.fault(), 1);
        due("and when asked", x.fault(), 1);
    }
}
