/** Part 4 and promises 18 to 22, sentence by sentence: where each boundary is, on both sides. */
public final class MazesEdgesTest {
    private static final Check CHECK = new Check();
    private static final Scene BARE = Scene.bare(CHECK), SOME = Scene.some(CHECK), FULL = Scene.full(CHECK);
    private static final long LOST = Scene.LOST;

    public static void main(String[] args) {
        mazesRefusals();
        mazesOfEachDay();
        mazesMindNothingElse();
        oddsRefusals();
        oddsChangeNothing();
        oddsOfNoDays();
        oddsOfEachN();
        oddsOfTheLastMove();
        oddsInLeastTerms();
        oddsOfOtherDays();
        oddsOfTheLastDay();
        readingRefusals();
        readingPlaces();
        readingNumbers();
        backEdges();
        backTakesTheLast();
        fitsRefusals();
        fitsOfNoReadings();
        fitsBits();
        fitsOfTheFirstAndLastDay();
        fitsOfWhatIsOut();
        fitsOfAllReadings();
        fitsByFrostAndShade();
        CHECK.end();
    }

    private static void due(String call, long got, long want) {
        CHECK.due(call, got, want);
    }

    private static VineGarden planted(String text, int kind, int c, int heading) {
        VineGarden x = Check.sown(text);
        due("planted in " + text, x.vine(kind, c, heading), 0);
        return x;
    }

    private static void frosts(VineGarden x, int from, int to) {
        for (int day = from; day <= to; day++) {
            x.frost(day, true);
        }
    }

    // ---- promise 18: mazes

    private static void mazesRefusals() {
        for (Scene scene : new Scene[] {BARE, SOME, FULL}) {
            for (int kind : Scene.beyond(0, 2)) {
                scene.keeps("mazes of kind " + kind, x -> x.mazes(kind, 79), -2);
                scene.keeps("mazes of kind " + kind, x -> x.mazes(kind, 80), -2);
            }
            for (int n : Scene.beyond(0, 79)) {
                for (int kind = 0; kind < 3; kind++) {
                    int of = kind;
                    scene.keeps("mazes by day " + n, x -> x.mazes(of, n), -2);
                }
            }
        }
    }

    private static void mazesOfEachDay() {
        for (int kind = 0; kind < 3; kind++) {
            VineGarden x = new VineGarden();
            PlainModel model = new PlainModel();
            int before = 0;
            for (int n = 0; n < 80; n++) {
                int many = x.mazes(kind, n);
                due("mazes of " + kind + " by day " + n, many, model.mazes(kind, n));
                CHECK.holds("no fewer by a later day", many >= before);
                before = many;
            }
            due("on day 0", x.mazes(kind, 0), 0);
            due("on day 2", x.mazes(kind, 2), 0);
            due("all that have a way", x.mazes(kind, 79), 51);
        }
    }

    private static void mazesMindNothingElse() {
        for (Scene scene : new Scene[] {BARE, SOME, FULL}) {
            for (int kind = 0; kind < 3; kind++) {
                int of = kind;
                scene.keeps("mazes by day 79", x -> x.mazes(of, 79), 51);
                scene.keeps("mazes by day 0", x -> x.mazes(of, 0), 0);
            }
            scene.keeps("mazes by day 3", x -> x.mazes(0, 3), 40);
        }
        // Nor does the garden mind them: cell 0 stays as it is, and nothing is planted there.
        VineGarden x = planted("g23;p.x;###", 0, 1, 0);
        due("mazes", x.mazes(2, 79), 51);
        due("cell 0 stays", x.sign(0), 2);
        due("it may be closed still", x.closed(0, 0), 0);
        due("by which it is out on day 0", x.closed(0, 1), 0);
        x.set(0, 1);
        due("mazes", x.mazes(0, 79), 51);
        due("cell 0 stays", x.sign(0), 1);
    }

    // ---- promise 19: odds

    private static void oddsRefusals() {
        for (int v : Scene.beyond(0, 2)) {
            FULL.keeps("odds of " + v, x -> x.odds(v, 0, 0, 0), LOST);
        }
        for (int v : Scene.beyond(0, 0)) {
            SOME.keeps("odds of " + v, x -> x.odds(v, 0, 0, 0), LOST);
        }
        for (int day : Scene.beyond(0, 79)) {
            FULL.keeps("odds by day " + day, x -> x.odds(0, day, 0, 0), LOST);
        }
        for (int n : Scene.beyond(0, 8)) {
            FULL.keeps("odds of days " + n, x -> x.odds(0, 79, n, 0), LOST);
            FULL.keeps("odds of days " + n, x -> x.odds(0, 79, n, 1), LOST);
        }
        for (int which : Scene.beyond(0, 1)) {
            FULL.keeps("odds, which " + which, x -> x.odds(0, 79, 8, which), LOST);
            SOME.keeps("odds, which " + which, x -> x.odds(0, 0, 0, which), LOST);
        }
        BARE.keeps("odds", x -> x.odds(0, 79, 8, 1), LOST);
    }

    private static void oddsChangeNothing() {
        SOME.keeps("upper", x -> x.odds(0, 3, 8, 0), 5);
        SOME.keeps("lower", x -> x.odds(0, 3, 8, 1), 16);
        FULL.keeps("upper", x -> x.odds(2, 79, 8, 0), 1);
        FULL.keeps("lower", x -> x.odds(2, 79, 8, 1), 1);
        FULL.keeps("upper of never", x -> x.odds(1, 79, 8, 0), 0);
        FULL.keeps("lower of never", x -> x.odds(1, 79, 8, 1), 1);
    }

    private static void share(VineGarden x, int day, int n, long upper, long lower) {
        due("upper by " + day + " of " + n, x.odds(0, day, n, 0), upper);
        due("lower by " + day + " of " + n, x.odds(0, day, n, 1), lower);
    }

    private static void oddsOfNoDays() {
        VineGarden x = planted("g13;..x", 0, 0, 1);
        share(x, 0, 0, 0, 1);
        share(x, 1, 0, 1, 1);
        share(x, 79, 0, 1, 1);
        x.frost(1, true);
        share(x, 1, 0, 0, 1);
        share(x, 2, 0, 1, 1);
    }

    private static void oddsOfEachN() {
        // Out by one move: by each row but that of frosts alone, if the day is one of them.
        for (int n = 0; n <= 8; n++) {
            VineGarden x = planted("g12;.x", 0, 0, 1);
            long rows = 1L << n;
            share(x, 0, n, 1, n == 0 ? 1 : 2);
            if (n > 0) {
                share(x, n - 1, n, rows - 1, rows);
            }
            share(x, n, n, 1, 1);
            share(x, 79, n, 1, 1);
        }
    }

    private static void oddsOfTheLastMove() {
        // Out by the eighth move: on day 7 by one row alone.
        VineGarden x = planted("g26;......;###x..", 0, 0, 1);
        due("out", x.ends(0, 0), 7);
        share(x, 6, 8, 0, 1);
        share(x, 7, 8, 1, 256);
        share(x, 8, 8, 9, 256);
        share(x, 9, 8, 37, 256);
        share(x, 14, 8, 255, 256);
        share(x, 15, 8, 1, 1);
        share(x, 7, 7, 1, 128);
        share(x, 7, 1, 1, 2);
    }

    private static void oddsInLeastTerms() {
        // Out by the second move.
        VineGarden x = planted("g13;..x", 0, 0, 1);
        share(x, 1, 8, 1, 4);
        share(x, 2, 8, 1, 2);
        share(x, 3, 8, 11, 16);
        share(x, 4, 8, 13, 16);
        share(x, 5, 8, 57, 64);
        share(x, 6, 8, 15, 16);
        share(x, 7, 8, 247, 256);
        share(x, 8, 8, 255, 256);
        share(x, 9, 8, 1, 1);
        share(x, 0, 8, 0, 1);
    }

    private static void oddsOfOtherDays() {
        VineGarden x = planted("g13;..x", 0, 0, 1);
        frosts(x, 0, 1);
        // Frosts that are there on the days that may have one or not do not matter.
        share(x, 1, 2, 1, 4);
        share(x, 2, 2, 3, 4);
        share(x, 1, 1, 0, 1);
        share(x, 2, 1, 1, 2);
        share(x, 3, 2, 1, 1);
        x.frost(2, true);
        share(x, 2, 2, 1, 4);
        share(x, 3, 2, 3, 4);
        share(x, 2, 3, 1, 2);
        for (int day = 0; day < 80; day++) {
            due("frosts stay on " + day, x.frost(day, day <= 2), 0);
        }
    }

    private static void oddsOfTheLastDay() {
        VineGarden x = planted("g13;..x", 0, 0, 1);
        frosts(x, 0, 79);
        share(x, 79, 0, 0, 1);
        share(x, 79, 1, 0, 1);
        share(x, 79, 2, 1, 4);
        x.frost(79, false);
        share(x, 78, 1, 0, 1);
        share(x, 79, 1, 1, 2);
        share(x, 79, 0, 0, 1);
        // One that is shaded by another one is never out, by no row.
        VineGarden y = Check.sown("g13;.x.");
        y.vine(0, 2, 3);
        y.vine(0, 0, 1);
        due("the first one", y.odds(0, 0, 1, 1), 2);
        due("the second one", y.odds(1, 79, 8, 0), 0);
        due("the second one", y.odds(1, 79, 8, 1), 1);
    }

    // ---- promise 20: reading

    private static void readingRefusals() {
        for (int v : Scene.beyond(0, 2)) {
            FULL.keeps("unknown ahead of full: vine " + v, x -> x.reading(v, 0, 0), -1);
        }
        for (int v : Scene.beyond(0, 0)) {
            SOME.keeps("reading of vine " + v, x -> x.reading(v, 0, 0), -1);
        }
        for (int day : Scene.beyond(0, 79)) {
            FULL.keeps("unknown ahead of full: day " + day, x -> x.reading(0, day, 0), -1);
            SOME.keeps("reading of day " + day, x -> x.reading(0, day, 0), -1);
        }
        for (int c : Scene.beyond(0, 29)) {
            FULL.keeps("unknown ahead of full: cell " + c, x -> x.reading(0, 0, c), -1);
        }
        for (int c : Scene.beyond(0, 5)) {
            SOME.keeps("reading of cell " + c, x -> x.reading(0, 0, c), -1);
        }
        FULL.keeps("full", x -> x.reading(0, 0, 0), -4);
        FULL.keeps("full", x -> x.reading(2, 79, 29), -4);
        BARE.keeps("no vine, no cell", x -> x.reading(0, 0, 0), -1);
        VineGarden x = Check.sown("g12;..");
        due("cells, but no vine", x.reading(0, 0, 0), -1);
    }

    private static void readingPlaces() {
        int[] days = {0, 79, 0, 79, 40};
        int[] cells = {0, 29, 29, 0, 7};
        for (int k = 0; k < days.length; k++) {
            for (int v = 0; v < 3; v++) {
                VineGarden x = FULL.make();
                x.back(8);
                // A hedge, too, where it can never be.
                due("reading", x.reading(v, days[k], cells[k]), 0);
                due("one", x.many(3), 1);
                boolean so = x.tip(v, days[k]) == cells[k];
                int own = 4 * x.ofVine(v, 0) + x.ofVine(v, 2);
                due("its own kind and heading fit", (x.fits(v) >> own) & 1, so ? 1 : 0);
                due("those of another one fit", x.fits((v + 1) % 3), 4095);
            }
        }
    }

    private static void readingNumbers() {
        VineGarden x = planted("g12;..", 0, 0, 1);
        for (int r = 0; r < 8; r++) {
            due("how many there are ahead", x.reading(0, 0, 1), r);
            due("how many", x.many(3), r + 1);
        }
        due("a ninth one", x.reading(0, 0, 1), -4);
        due("eight", x.many(3), 8);
        due("taken back", x.back(1), 7);
        due("an eighth one again", x.reading(0, 0, 1), 7);
        due("full again", x.reading(0, 0, 1), -4);
        x.back(8);
        due("a first one again", x.reading(0, 0, 1), 0);
        x.pull(1);
        x.vine(0, 0, 1);
        due("a first one again", x.reading(0, 0, 1), 0);
    }

    // ---- promise 21: back

    private static void backEdges() {
        for (int k : Scene.beyond(0, 8)) {
            FULL.keeps("back " + k, x -> x.back(k), -2);
        }
        for (int k : Scene.beyond(0, 2)) {
            SOME.keeps("back " + k, x -> x.back(k), -2);
        }
        for (int k : Scene.beyond(0, 0)) {
            BARE.keeps("back " + k, x -> x.back(k), -2);
        }
        FULL.keeps("back none", x -> x.back(0), 8);
        SOME.keeps("back none", x -> x.back(0), 2);
        BARE.keeps("back none", x -> x.back(0), 0);
        for (int k = 0; k <= 8; k++) {
            VineGarden x = FULL.make();
            due("back " + k, x.back(k), 8 - k);
            due("left", x.many(3), 8 - k);
            due("vines stay", x.many(2), 3);
            due("one more than are left", x.back(9 - k), -2);
            due("all that are left", x.back(8 - k), 0);
        }
    }

    private static void backTakesTheLast() {
        VineGarden x = planted("g13;...", 0, 1, 1);
        x.reading(0, 0, 2);
        due("by kinds and headings", x.fits(0), 0x366);
        int first = x.fits(0);
        x.reading(0, 1, 1);
        int second = x.fits(0);
        x.reading(0, 2, 2);
        due("three, of which one is not so", x.fits(0), 0);
        x.back(1);
        due("two", x.fits(0), second);
        x.back(1);
        due("one", x.fits(0), first);
        x.back(1);
        due("none", x.fits(0), 4095);
    }

    // ---- promise 22: fits

    private static void fitsRefusals() {
        for (int v : Scene.beyond(0, 2)) {
            FULL.keeps("fits of " + v, x -> x.fits(v), -1);
        }
        for (int v : Scene.beyond(0, 0)) {
            SOME.keeps("fits of " + v, x -> x.fits(v), -1);
        }
        for (int v : new int[] {-1, 0, Scene.MIN, Scene.MAX}) {
            BARE.keeps("fits of " + v, x -> x.fits(v), -1);
        }
        FULL.keeps("fits of 0", x -> x.fits(0), 375);
        FULL.keeps("fits of 1", x -> x.fits(1), 102);
        FULL.keeps("fits of 2", x -> x.fits(2), 1792);
        SOME.keeps("fits of 0: none", x -> x.fits(0), 0);
    }

    private static void fitsOfNoReadings() {
        for (int kind = 0; kind < 3; kind++) {
            for (int heading = 0; heading < 4; heading++) {
                VineGarden x = planted("g12;.#", kind, 0, heading);
                due("all", x.fits(0), 4095);
                x.reading(0, 0, 0);
                due("all stand", x.fits(0), 4095);
                x.reading(0, 0, 1);
                due("none is in a hedge", x.fits(0), 0);
            }
        }
    }

    private static void fitsBits() {
        // Bit 4 times kind and heading: a vine and a climber to their left, a rambler to its right.
        int[] cells = {3, 1, 5, 7};
        for (int heading = 0; heading < 4; heading++) {
            VineGarden x = planted("g33;...;...;...", 1, 4, 2);
            x.reading(0, 0, cells[heading]);
            int want = (1 << heading) + (1 << (4 + heading)) + (1 << (8 + (heading + 2) % 4));
            due("left of heading " + heading, x.fits(0), want);
        }
        // A prop ahead: climbers and ramblers by three headings; a vine to whose left it is.
        VineGarden x = planted("g33;.p.;...;...", 0, 4, 0);
        x.reading(0, 0, 1);
        due("the prop", x.fits(0), 0xBB2);
        due("its own does not fit", x.fits(0) & 1, 0);
    }

    private static void fitsOfTheFirstAndLastDay() {
        VineGarden x = planted("g13;..x", 0, 0, 1);
        x.reading(0, 79, 2);
        due("at the end, by all headings but one", x.fits(0), 0x777);
        x.back(1);
        x.reading(0, 79, 0);
        due("at the end, by that one", x.fits(0), 0x888);
        x.back(1);
        x.reading(0, 0, 1);
        due("at the end of day 0", x.fits(0), 0x777);
        x.back(1);
        frosts(x, 1, 78);
        x.reading(0, 78, 1);
        due("at the end of day 78", x.fits(0), 0x777);
        x.reading(0, 79, 2);
        due("and of day 79", x.fits(0), 0x777);
        x.frost(79, true);
        due("not by frost", x.fits(0), 0);
    }

    /** One that is out, on day 0, too, stays there. */
    private static void fitsOfWhatIsOut() {
        VineGarden x = planted("g14;.xx.", 0, 0, 1);
        x.reading(0, 0, 1);
        x.reading(0, 1, 1);
        x.reading(0, 79, 1);
        due("it stays", x.fits(0), 0x777);
        x.reading(0, 2, 2);
        due("it does not go on", x.fits(0), 0);
    }

    private static void fitsOfAllReadings() {
        VineGarden x = planted("g33;...;...;...", 0, 4, 0);
        for (int r = 0; r < 7; r++) {
            x.reading(0, 0, 3);
        }
        due("seven alike", x.fits(0), 1041);
        x.reading(0, 0, 5);
        due("but for the eighth one", x.fits(0), 0);
        x.back(8);
        x.reading(0, 0, 5);
        for (int r = 0; r < 7; r++) {
            x.reading(0, 0, 3);
        }
        due("but for the first one", x.fits(0), 0);
    }

    private static void fitsByFrostAndShade() {
        VineGarden x = planted("g33;...;...;...", 0, 4, 0);
        x.frost(0, true);
        x.reading(0, 0, 4);
        due("it stands by frost", x.fits(0), 4095);
        x.reading(0, 1, 3);
        due("then it goes", x.fits(0), 1041);
        // Another one is in that cell: it goes elsewhere.
        x.vine(0, 3, 0);
        due("shaded", x.fits(0), 0);
        x.pull(1);
        due("no more", x.fits(0), 1041);
        x.vine(0, 8, 0);
        x.reading(1, 0, 0);
        due("readings of another one do not matter", x.fits(0), 1041);
        due("but to that one", x.fits(1), 0);
    }
}
