import java.util.Random;

/** Long runs of mixed calls, each answered by the class and by the plain model alike. */
public final class ModelTest {
    private static final Check CHECK = new Check();
    private static final int RUNS = 150, CALLS = 512;
    private static final int[] ODD = {-1, 80, 50, 51, 9, 31, Integer.MIN_VALUE, Integer.MAX_VALUE};

    private final VineGarden x = new VineGarden();
    private final PlainModel m = new PlainModel();
    private final Random random;
    private final int run;
    private int calls = 0;

    private ModelTest(int run) {
        this.run = run;
        this.random = new Random(run);
    }

    public static void main(String[] args) {
        for (int run = 0; run < RUNS; run++) {
            new ModelTest(run).go();
        }
        CHECK.end();
    }

    /** Below a bound, but seldom anything. */
    private int below(int bound) {
        return random.nextInt(30) == 0 ? ODD[random.nextInt(ODD.length)] : random.nextInt(bound);
    }

    private void due(String call, long got, long want) {
        calls++;
        CHECK.due("run " + run + ", call " + calls + ": " + call, got, want);
    }

    private void go() {
        while (calls < CALLS) {
            if (random.nextInt(40) == 0 && calls < CALLS - 60) {
                sow();
            }
            switch (random.nextInt(6)) {
                case 0, 1 -> garden();
                case 2 -> days();
                case 3 -> ways();
                case 4 -> chances();
                default -> parts();
            }
            if (random.nextInt(4) == 0) {
                due("fault", x.fault(), m.fault);
                due("trace", x.trace(), m.trace);
                int what = below(4);
                due("many " + what, x.many(what), m.many(what));
            }
        }
    }

    private String text() {
        int high = 1 + random.nextInt(5);
        int wide = 2 + random.nextInt(5);
        String signs = random.nextBoolean() ? "....#px" : "......#ppx";
        StringBuilder text = new StringBuilder("g").append(high).append(wide);
        for (int r = 0; r < high; r++) {
            text.append(';');
            for (int c = 0; c < wide; c++) {
                text.append(signs.charAt(random.nextInt(signs.length())));
            }
        }
        if (random.nextInt(6) == 0) {
            text.setCharAt(random.nextInt(text.length()), "g;.#pxq0123456789".charAt(random.nextInt(17)));
        }
        return text.toString();
    }

    private void sow() {
        String text = text();
        int k = random.nextInt(4);
        int lane = random.nextInt(3);
        int from = random.nextInt(4);
        int length = from + text.length() + random.nextInt(3);
        due("sheet", x.sheet(k, lane, length), m.sheet(k, lane, length));
        for (int i = 0; i < text.length(); i++) {
            due("put", x.put(k, from + i, text.charAt(i)), m.put(k, from + i, text.charAt(i)));
        }
        int n = text.length() + (random.nextInt(6) == 0 ? random.nextInt(5) - 2 : 0);
        due("garden of " + text, x.garden(k, lane, from, n), m.garden(k, lane, from, n));
        for (int v = 0; v < 3; v++) {
            plant();
        }
    }

    private void plant() {
        int kind = below(3);
        int c = below(30);
        int heading = below(4);
        due("vine " + kind + " " + c + " " + heading, x.vine(kind, c, heading), m.vine(kind, c, heading));
    }

    private void garden() {
        int c = below(30);
        int s = below(4);
        int v = below(3);
        switch (random.nextInt(7)) {
            case 0 -> due("sign " + c, x.sign(c), m.sign(c));
            case 1 -> due("set " + c + " " + s, x.set(c, s), m.set(c, s));
            case 2, 3 -> plant();
            case 4 -> due("ofVine " + v + " " + s, x.ofVine(v, s), m.ofVine(v, s));
            case 5 -> {
                int k = random.nextInt(3) == 0 ? below(4) : 0;
                due("pull " + k, x.pull(k), m.pull(k));
            }
            default -> {
                int day = random.nextBoolean() ? below(12) : below(82);
                boolean is = random.nextInt(3) != 0;
                due("frost " + day + " " + is, x.frost(day, is), m.frost(day, is));
            }
        }
    }

    private void days() {
        int v = below(3);
        int day = random.nextBoolean() ? below(20) : below(80);
        int what = below(2);
        due("tip " + v + " " + day, x.tip(v, day), m.tip(v, day));
        due("leaves " + v + " " + day, x.leaves(v, day), m.leaves(v, day));
        due("doubts " + v + " " + day, x.doubts(v, day), m.doubts(v, day));
        due("ends " + v + " " + what, x.ends(v, what), m.ends(v, what));
    }

    private void ways() {
        int v = below(3);
        int what = below(2);
        due("shortest " + v, x.shortest(v), m.shortest(v));
        due("law " + v + " " + what, x.law(v, what), m.law(v, what));
        due("prop " + v + " " + what, x.prop(v, what), m.prop(v, what));
        due("closed " + v + " " + what, x.closed(v, what), m.closed(v, what));
        due("first", x.first(), m.first());
    }

    private void chances() {
        int v = below(3);
        int day = random.nextBoolean() ? below(12) : below(80);
        switch (random.nextInt(5)) {
            case 0 -> {
                int kind = below(3);
                int n = below(20);
                due("mazes " + kind + " " + n, x.mazes(kind, n), m.mazes(kind, n));
            }
            case 1 -> {
                int n = below(9);
                int which = below(2);
                String call = "odds " + v + " " + day + " " + n + " " + which;
                due(call, x.odds(v, day, n, which), m.odds(v, day, n, which));
            }
            case 2 -> {
                // Mostly where it truly is, so that something fits.
                int c = random.nextInt(4) == 0 ? below(30) : m.tip(v, day);
                due("reading " + v + " " + day + " " + c, x.reading(v, day, c), m.reading(v, day, c));
            }
            case 3 -> {
                int k = below(4);
                due("back " + k, x.back(k), m.back(k));
            }
            default -> { }
        }
        due("fits " + v, x.fits(v), m.fits(v));
    }

    private void parts() {
        int k = below(4);
        int other = below(4);
        int lane = random.nextBoolean() ? 0 : below(3);
        int i = below(8);
        int j = below(8);
        int n = below(8);
        int v = below(3);
        int number = random.nextInt(3) == 0 ? random.nextInt() : random.nextInt(600) - 300;
        switch (random.nextInt(8)) {
            case 0 -> due("sheet " + k + " " + lane + " " + n, x.sheet(k, lane, n), m.sheet(k, lane, n));
            case 1 -> due("lose " + k, x.lose(k), m.lose(k));
            case 2 -> due("put " + k + " " + i, x.put(k, i, number), m.put(k, i, number));
            case 3 -> due("cell " + k + " " + i + " " + lane, x.cell(k, i, lane), m.cell(k, i, lane));
            case 4 -> due("copy " + k + " " + i + " " + other + " " + j + " " + n,
                    x.copy(k, i, other, j, n), m.copy(k, i, other, j, n));
            case 5 -> {
                due("tell " + v, x.tell(v), m.tell(v));
                due("tie " + v, x.tie(v), m.tie(v));
            }
            case 6 -> due("as " + v + " " + lane, x.as(v, lane), m.as(v, lane));
            default -> due("garden " + k + " " + lane + " " + i + " " + n,
                    x.garden(k, lane, i, n), m.garden(k, lane, i, n));
        }
    }
}
