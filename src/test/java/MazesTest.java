/** Promises 18 to 22: mazes, odds, readings, fits. */
public final class MazesTest {
    private static final Check CHECK = new Check();
    private static final long LOST = Long.MIN_VALUE;

    public static void main(String[] args) {
        mazes();
        odds();
        oddsOverFrosts();
        oddsRefusals();
        readings();
        backs();
        fits();
        CHECK.end();
    }

    private static void due(String call, long got, long want) {
        CHECK.due(call, got, want);
    }

    private static void mazes() {
        VineGarden x = new VineGarden();
        for (int kind = 0; kind < 3; kind++) {
            due("in four steps at least", x.mazes(kind, 2), 0);
            due("all that have a way", x.mazes(kind, 79), 51);
        }
        due("the day itself counts", x.mazes(0, 3), 40);
        due("kind -1", x.mazes(-1, 0), -2);
        due("kind 3", x.mazes(3, 0), -2);
        due("n -1", x.mazes(0, -1), -2);
        due("n 80", x.mazes(0, 80), -2);
        Check.sow(x, "g13;..x");
        x.vine(2, 0, 1);
        x.frost(0, true);
        due("without frost", x.mazes(0, 3), 40);
        due("the garden stays", x.many(0), 3);
        due("the vine stays", x.ofVine(0, 0), 2);
        due("the frost stays", x.ends(0, 0), 2);
    }

    private static void share(VineGarden x, int day, int n, long upper, long lower) {
        due("upper by " + day + " of " + n, x.odds(0, day, n, 0), upper);
        due("lower by " + day + " of " + n, x.odds(0, day, n, 1), lower);
    }

    private static void odds() {
        VineGarden x = Check.sown("g13;..x");
        x.vine(0, 0, 1);
        share(x, 0, 0, 0, 1);
        share(x, 1, 0, 1, 1);
        share(x, 0, 8, 0, 1);
        share(x, 1, 1, 1, 2);
        share(x, 1, 2, 1, 4);
        share(x, 1, 8, 1, 4);
        share(x, 2, 2, 3, 4);
        share(x, 2, 3, 1, 2);
        share(x, 3, 2, 1, 1);
        share(x, 7, 8, 247, 256);
        share(x, 79, 8, 1, 1);
        due("out as before", x.ends(0, 0), 1);
    }

    private static void oddsOverFrosts() {
        VineGarden x = Check.sown("g13;..x");
        x.vine(0, 0, 1);
        x.frost(0, true);
        share(x, 1, 0, 0, 1);
        share(x, 1, 1, 1, 2);
        share(x, 2, 1, 1, 1);
        x.frost(2, true);
        share(x, 2, 1, 1, 2);
        share(x, 2, 2, 1, 4);
        due("the frosts stay", x.ends(0, 0), 3);
        VineGarden y = Check.sown("g12;..");
        y.vine(0, 0, 1);
        share(y, 79, 8, 0, 1);
    }

    private static void oddsRefusals() {
        VineGarden x = Check.sown("g13;..x");
        x.vine(0, 0, 1);
        due("vine -1", x.odds(-1, 0, 0, 0), LOST);
        due("vine 1", x.odds(1, 0, 0, 0), LOST);
        due("day -1", x.odds(0, -1, 0, 0), LOST);
        due("day 80", x.odds(0, 80, 0, 0), LOST);
        due("n -1", x.odds(0, 0, -1, 0), LOST);
        due("n 9", x.odds(0, 0, 9, 0), LOST);
        due("which -1", x.odds(0, 0, 0, -1), LOST);
        due("which 2", x.odds(0, 0, 0, 2), LOST);
    }

    private static void readings() {
        VineGarden x = Check.sown("g13;#.x");
        x.vine(0, 1, 1);
        due("vine -1", x.reading(-1, 0, 0), -1);
        due("vine 1", x.reading(1, 0, 0), -1);
        due("day -1", x.reading(0, -1, 0), -1);
        due("day 80", x.reading(0, 80, 0), -1);
        due("cell -1", x.reading(0, 0, -1), -1);
        due("cell 3", x.reading(0, 0, 3), -1);
        due("none yet", x.many(3), 0);
        for (int k = 0; k < 8; k++) {
            due("reading", x.reading(0, 79 - k, k % 3), k);
        }
        due("full", x.reading(0, 0, 0), -4);
        due("unknown ahead of full", x.reading(0, 0, 3), -1);
        due("eight", x.many(3), 8);
    }

    private static void backs() {
        VineGarden x = new VineGarden();
        due("none of none", x.back(0), 0);
        due("one of none", x.back(1), -2);
        Check.sow(x, "g13;..x");
        x.vine(0, 0, 1);
        x.reading(0, 0, 1);
        x.reading(0, 1, 0);
        x.reading(0, 2, 0);
        due("-1", x.back(-1), -2);
        due("4", x.back(4), -2);
        due("least", x.back(Integer.MIN_VALUE), -2);
        due("greatest", x.back(Integer.MAX_VALUE), -2);
        due("none", x.back(0), 3);
        due("fits not", x.fits(0), 0);
        due("two", x.back(2), 1);
        due("fits by the first one", x.fits(0), 0x777);
        due("the next number", x.reading(0, 79, 2), 1);
        due("all", x.back(2), 0);
        due("none are left", x.many(3), 0);
    }

    private static void fits() {
        VineGarden x = Check.sown("g33;...;..p;...");
        due("no vine", x.fits(0), -1);
        x.vine(2, 4, 1);
        due("no readings", x.fits(0), 4095);
        x.reading(0, 0, 5);
        // Every climber and rambler that doesn't turn its back on it; a vine with it to its left.
        due("the prop", x.fits(0), 0x774);
        x.reading(0, 0, 5);
        due("the same again", x.fits(0), 0x774);
        x.reading(0, 1, 2);
        due("then to its left", x.fits(0), 0x074);
        due("its kind stays", x.ofVine(0, 0), 2);
        due("its heading stays", x.ofVine(0, 2), 1);
        x.vine(0, 0, 0);
        x.reading(1, 0, 8);
        due("readings of another one do not matter", x.fits(0), 0x074);
        due("no kind does that", x.fits(1), 0);
        x.back(3);
        x.frost(0, true);
        due("by frost, not so", x.fits(0), 0);
        x.back(1);
        x.reading(0, 0, 4);
        due("by frost, where it stood", x.fits(0), 0x0fff);
        due("vine -1", x.fits(-1), -1);
        due("vine 2", x.fits(2), -1);
    }
}
