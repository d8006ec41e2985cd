import java.util.ArrayList;
import java.util.List;
import java.util.function.Supplier;
import java.util.function.ToLongFunction;

/**
 * A garden made the same way each time, for calls that are to change nothing in it:
 * after the call all that can be asked is asked, and must be as in a twin without the call.
 */
final class Scene {
    static final int MIN = Integer.MIN_VALUE, MAX = Integer.MAX_VALUE;
    static final long LOST = Long.MIN_VALUE;
    /** The text of the full scene: 38 codes. */
    static final String FULL_TEXT = "g56;..p...;.##.#.;p....#;.#.#..;x..p.x";
    private static final int[] SOME_DAYS = {0, 1, 2, 3, 5, 8, 13, 79};

    private final Check check;
    private final String name;
    private final Supplier<VineGarden> maker;
    private final int fault;
    private final List<Long> all;

    private Scene(Check check, String name, Supplier<VineGarden> maker) {
        this.check = check;
        this.name = name;
        this.maker = maker;
        this.fault = maker.get().fault();
        this.all = askAll(maker.get());
    }

    /** Nothing there yet; the latest fault is 1. */
    static Scene bare(Check check) {
        return new Scene(check, "bare", () -> {
            VineGarden x = new VineGarden();
            x.put(0, 0, 0);
            return x;
        });
    }

    /** One vine of three, two readings of eight, one frost; the latest fault is 2. */
    static Scene some(Check check) {
        return new Scene(check, "some", () -> {
            VineGarden x = Check.sown("g23;.#.;xp.");
            x.vine(1, 2, 2);
            x.reading(0, 2, 4);
            x.reading(0, 0, 2);
            x.frost(1, true);
            x.tie(0);
            x.cell(0, 0, 1);
            return x;
        });
    }

    /**
     * All places are taken: 30 cells, three vines, eight readings, a sheet of 50 bytes
     * (the text, then zeros), one of three shorts, one of no ints, one that has nothing;
     * the latest fault is 3.
     */
    static Scene full(Check check) {
        return new Scene(check, "full", () -> {
            VineGarden x = new VineGarden();
            x.sheet(0, 0, 50);
            for (int i = 0; i < FULL_TEXT.length(); i++) {
                x.put(0, i, FULL_TEXT.charAt(i));
            }
            x.garden(0, 0, 0, FULL_TEXT.length());
            for (int v = 0; v < 3; v++) {
                x.vine(v, new int[] {0, 14, 26}[v], new int[] {1, 2, 0}[v]);
            }
            for (int day : new int[] {0, 4, 79}) {
                x.frost(day, true);
            }
            for (int r = 0; r < 8; r++) {
                x.reading(r % 3, 9 - r, x.tip(r % 3, 9 - r));
            }
            x.sheet(1, 1, 3);
            for (int i = 0; i < 3; i++) {
                x.put(1, i, -300 - i);
            }
            x.sheet(2, 2, 0);
            x.tell(2);
            x.put(2, 0, 0);
            return x;
        });
    }

    /** The first numbers beyond low .. high, and the farthest ones. */
    static int[] beyond(int low, int high) {
        return new int[] {low - 1, high + 1, MIN, MAX};
    }

    /** A call that names no faults. */
    void keeps(String call, ToLongFunction<VineGarden> ask, long want) {
        same(call, ask, want, fault);
    }

    /** A call that names faults, and comes to none of them. */
    void keepsFaultless(String call, ToLongFunction<VineGarden> ask, long want) {
        same(call, ask, want, 0);
    }

    /** A call that comes to a fault, and answers an int. */
    void fails(String call, ToLongFunction<VineGarden> ask, int kindOfFault) {
        same(call, ask, -10 - kindOfFault, kindOfFault);
    }

    /** A call that comes to a fault, and answers a long. */
    void loses(String call, ToLongFunction<VineGarden> ask, int kindOfFault) {
        same(call, ask, LOST, kindOfFault);
    }

    VineGarden make() {
        return maker.get();
    }

    private void same(String call, ToLongFunction<VineGarden> ask, long want, int wantedFault) {
        VineGarden x = maker.get();
        String where = name + ": " + call;
        check.due(where, ask.applyAsLong(x), want);
        check.due(where + ", then fault()", x.fault(), wantedFault);
        List<Long> now = askAll(x);
        check.holds(where + " changes nothing: " + all + " became " + now, now.equals(all));
    }

    /** All that can be asked, but for fault(); of what only changes tell, last. */
    private static List<Long> askAll(VineGarden x) {
        List<Long> answers = new ArrayList<>();
        answers.add((long) x.trace());
        for (int what = 0; what < 4; what++) {
            answers.add((long) x.many(what));
        }
        for (int c = 0; c <= 30; c++) {
            answers.add((long) x.sign(c));
        }
        for (int v = 0; v < 3; v++) {
            askVine(x, v, answers);
        }
        answers.add((long) x.first());
        for (int k = 0; k < 4; k++) {
            askSheet(x, k, answers);
        }
        askReadings(x, answers);
        for (int day = 0; day < 80; day++) {
            answers.add((long) x.frost(day, true));
        }
        return answers;
    }

    private static void askVine(VineGarden x, int v, List<Long> answers) {
        for (int what = 0; what < 3; what++) {
            answers.add((long) x.ofVine(v, what));
        }
        for (int day : SOME_DAYS) {
            answers.add((long) x.tip(v, day));
        }
        answers.add(x.leaves(v, 79));
        answers.add((long) x.doubts(v, 79));
        answers.add((long) x.ends(v, 0));
        answers.add((long) x.ends(v, 1));
    }

    private static void askSheet(VineGarden x, int k, List<Long> answers) {
        for (int lane = 0; lane < 3; lane++) {
            x.cell(k, -1, lane);
            answers.add((long) x.fault());
            boolean more = x.fault() == 3;
            for (int i = 0; i <= 50 && more; i++) {
                long number = x.cell(k, i, lane);
                answers.add(number);
                more = number != LOST;
            }
        }
    }

    private static void askReadings(VineGarden x, List<Long> answers) {
        int left = x.many(3);
        while (left > 0) {
            for (int v = 0; v < 3; v++) {
                answers.add((long) x.fits(v));
            }
            left = x.back(1);
        }
    }
}
