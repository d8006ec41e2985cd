/** Part 2 and promises 9 to 12, sentence by sentence: where each boundary is, on both sides. */
public final class DaysEdgesTest {
    private static final Check CHECK = new Check();
    private static final Scene BARE = Scene.bare(CHECK), SOME = Scene.some(CHECK), FULL = Scene.full(CHECK);

    public static void main(String[] args) {
        refusals();
        endsRefusals();
        firstAndLastDay();
        askedInAnyOrder();
        directions();
        rowsDoNotGoOn();
        oneRowAndTwoColumns();
        threeByNumbers();
        leavesOfAnyVine();
        outGoesNoFurther();
        plantedOnAWayOut();
        doubledBackToAWayOut();
        backByTheFirstTime();
        headingAfterDoublingBack();
        propsAheadOfTheOthers();
        severalWithProps();
        longestLife();
        outOnTheLastDay();
        deadOnTheLastDay();
        doubtOnTheLastDay();
        frostOnEachDay();
        leafOfTheLastCell();
        CHECK.end();
    }

    private static void due(String call, long got, long want) {
        CHECK.due(call, got, want);
    }

    // ---- promises 9 to 12: who is refused

    private static void refusals() {
        for (int v : Scene.beyond(0, 2)) {
            refused(FULL, v, 0);
            refused(FULL, v, 79);
        }
        for (int v : Scene.beyond(0, 0)) {
            refused(SOME, v, 0);
        }
        for (int v : new int[] {-1, 0, 1, Scene.MIN, Scene.MAX}) {
            refused(BARE, v, 0);
        }
        for (int day : Scene.beyond(0, 79)) {
            for (int v = 0; v < 3; v++) {
                refused(FULL, v, day);
            }
            refused(SOME, 0, day);
            refused(BARE, 0, day);
        }
    }

    private static void refused(Scene scene, int v, int day) {
        scene.keeps("tip " + v + " " + day, x -> x.tip(v, day), -1);
        scene.keeps("leaves " + v + " " + day, x -> x.leaves(v, day), Scene.LOST);
        scene.keeps("doubts " + v + " " + day, x -> x.doubts(v, day), -1);
    }

    private static void endsRefusals() {
        for (int v : Scene.beyond(0, 2)) {
            FULL.keeps("ends " + v, x -> x.ends(v, 0), -1);
            FULL.keeps("unknown ahead of outside: " + v, x -> x.ends(v, 2), -1);
        }
        for (int what : Scene.beyond(0, 1)) {
            FULL.keeps("ends, what " + what, x -> x.ends(2, what), -2);
            SOME.keeps("ends, what " + what, x -> x.ends(0, what), -2);
            BARE.keeps("unknown, what " + what, x -> x.ends(0, what), -1);
        }
    }

    private static void firstAndLastDay() {
        // On day 0 there is a frost; from day 1 on vine 0 goes 1 2 3, as in its row.
        FULL.keeps("tip on day 0", x -> x.tip(0, 0), 0);
        FULL.keeps("leaves on day 0", x -> x.leaves(0, 0), 1);
        FULL.keeps("doubts on day 0", x -> x.doubts(0, 0), 0);
        FULL.keeps("tip on day 79", x -> x.tip(2, 79), 29);
        FULL.keeps("leaves on day 79", x -> x.leaves(2, 79), 15L << 26);
        FULL.keeps("doubts on day 79", x -> x.doubts(2, 79), 0);
        FULL.keeps("out", x -> x.ends(2, 0), 3);
        FULL.keeps("not dead", x -> x.ends(2, 1), -9);
        // Day 1 is the one with a frost: 5 4 3, on to which it came on days 0, 2, 3.
        SOME.keeps("tip on day 0", x -> x.tip(0, 0), 5);
        SOME.keeps("tip on day 1", x -> x.tip(0, 1), 5);
        SOME.keeps("tip on day 79", x -> x.tip(0, 79), 3);
        SOME.keeps("leaves on day 0", x -> x.leaves(0, 0), 36);
        SOME.keeps("leaves on day 79", x -> x.leaves(0, 79), 60);
        SOME.keeps("out", x -> x.ends(0, 0), 3);
    }

    private static void askedInAnyOrder() {
        VineGarden x = FULL.make();
        long[] up = new long[80];
        for (int day = 0; day < 80; day++) {
            up[day] = x.tip(0, day) + 100L * x.doubts(1, day);
        }
        for (int day = 79; day >= 0; day--) {
            due("from the last day on, day " + day, x.tip(0, day) + 100L * x.doubts(1, day), up[day]);
        }
    }

    // ---- directions

    private static void directions() {
        // Alone the cell ahead is open; by each heading it is another one.
        String[] texts = {"g33;#.#;#.#;###", "g33;###;#..;###", "g33;###;#.#;#.#", "g33;###;..#;###"};
        int[] aheads = {1, 5, 7, 3};
        for (int heading = 0; heading < 4; heading++) {
            for (int kind = 0; kind < 3; kind++) {
                for (int open = 0; open < 4; open++) {
                    VineGarden x = Check.sown(texts[open]);
                    x.vine(kind, 4, heading);
                    boolean behind = open == (heading + 2) % 4;
                    due("heading " + heading + ", open " + open, x.tip(0, 0), behind ? 4 : aheads[open]);
                    due("dead at once", x.ends(0, 1), behind ? 0 : 2);
                }
            }
        }
    }

    private static void rowsDoNotGoOn() {
        dead("g22;#.;.#", 1, 1);
        dead("g22;#.;.#", 2, 3);
        dead("g33;##.;.##;###", 2, 1);
        dead("g33;###;##.;.##", 6, 3);
        dead("g56;######;######;######;#####.;.#####", 23, 1);
        dead("g56;######;######;######;#####.;.#####", 24, 3);
        // Above the first row and below the last one there is nothing, either; behind it is open.
        dead("g22;.#;.#", 0, 0);
        dead("g22;.#;.#", 2, 2);
        dead("g56;.#####;######;######;######;.#####", 0, 0);
        dead("g56;.....#;#####.;######;######;.####.", 29, 2);
    }

    private static void dead(String text, int c, int heading) {
        for (int kind = 0; kind < 3; kind++) {
            VineGarden x = Check.sown(text);
            x.vine(kind, c, heading);
            due(text + " from " + c + ": stands", x.tip(0, 79), c);
            due(text + " from " + c + ": dead", x.ends(0, 1), 0);
            due(text + " from " + c + ": its leaf alone", x.leaves(0, 79), 1L << c);
        }
    }

    private static void oneRowAndTwoColumns() {
        VineGarden x = Check.sown("g12;.x");
        x.vine(0, 0, 1);
        due("least garden: out", x.ends(0, 0), 0);
        VineGarden y = Check.sown("g16;.....x");
        y.vine(0, 0, 1);
        due("one row: out", y.ends(0, 0), 4);
        VineGarden z = Check.sown("g52;.#;.#;.#;.#;x#");
        z.vine(0, 0, 2);
        due("down: out", z.ends(0, 0), 3);
        due("leaves", z.leaves(0, 79), 1 + 4 + 16 + 64 + 256);
    }

    // ---- vines by numbers

    private static void threeByNumbers() {
        VineGarden x = Check.sown("g33;#.#;...;#.#");
        x.vine(0, 5, 3);
        x.vine(1, 1, 2);
        x.vine(2, 3, 1);
        due("the first one has the cell", x.tip(0, 0), 4);
        due("the second one not", x.tip(1, 0), 1);
        due("the third one not", x.tip(2, 0), 3);
        due("the second one is dead", x.ends(1, 1), 0);
        due("the third one is dead", x.ends(2, 1), 0);
        due("to be dead is no doubt", x.doubts(1, 79) + x.doubts(2, 79), 0);
        due("on day 1 the first one goes down", x.tip(0, 1), 7);
        due("dead in the end", x.ends(0, 1), 4);
        x.pull(1);
        due("two alone: as before", x.tip(1, 0), 1);
        x.pull(2);
        x.vine(1, 1, 2);
        due("alone the other one has it", x.tip(0, 0), 4);
    }

    private static void leavesOfAnyVine() {
        // The second one comes beside where the first one was, and finds its leaf there.
        VineGarden x = Check.sown("g24;....;x..#");
        x.vine(0, 1, 1);
        x.vine(0, 6, 3);
        due("first", x.tip(0, 0), 2);
        due("second", x.tip(1, 0), 5);
        due("first on day 1", x.tip(0, 1), 3);
        due("second comes out past a leaf", x.tip(1, 1), 4);
        due("out", x.ends(1, 0), 1);
        due("first doubles back: all has a leaf", x.tip(0, 2), 2);
        due("its leaves are its own", x.leaves(0, 79), 1 + 2 + 4 + 8);
        due("the others too", x.leaves(1, 79), 16 + 32 + 64);
    }

    private static void outGoesNoFurther() {
        VineGarden x = Check.sown("g14;.xx.");
        x.vine(0, 0, 1);
        for (int day = 0; day < 80; day++) {
            due("it stays on day " + day, x.tip(0, day), 1);
            due("no leaf more on day " + day, x.leaves(0, day), 3);
            due("no doubts on day " + day, x.doubts(0, day), 0);
        }
        due("out on the first way out", x.ends(0, 0), 0);
        due("never dead", x.ends(0, 1), -9);
    }

    private static void plantedOnAWayOut() {
        VineGarden x = Check.sown("g13;x.x");
        x.vine(0, 0, 1);
        due("to be planted on one is not to come to it", x.ends(0, 0), 1);
        VineGarden y = Check.sown("g13;#x#");
        y.vine(0, 1, 1);
        due("alone on one: not out", y.ends(0, 0), -9);
        due("dead", y.ends(0, 1), 0);
    }

    private static void doubledBackToAWayOut() {
        VineGarden x = Check.sown("g13;x..");
        x.vine(0, 0, 1);
        due("on it again", x.tip(0, 3), 0);
        due("not out", x.ends(0, 0), -9);
        due("dead", x.ends(0, 1), 4);
        due("doubts", x.doubts(0, 79), 2);
    }

    // ---- doubling back

    /** Into two dead ends from one cell: back from the second one, on to where it came from first. */
    private static void backByTheFirstTime() {
        VineGarden x = Check.sown("g23;...;#.#");
        x.vine(0, 0, 1);
        int[] tips = {1, 2, 1, 4, 1, 0, 0};
        int[] doubts = {0, 0, 1, 1, 2, 3, 3};
        long[] leaves = {3, 7, 7, 23, 23, 23, 23};
        for (int day = 0; day < 7; day++) {
            due("tip on day " + day, x.tip(0, day), tips[day]);
            due("doubts on day " + day, x.doubts(0, day), doubts[day]);
            due("leaves on day " + day, x.leaves(0, day), leaves[day]);
        }
        due("dead", x.ends(0, 1), 6);
        due("not out", x.ends(0, 0), -9);
    }

    /** Where it was planted it stands twice, by two headings, ahead of its death. */
    private static void headingAfterDoublingBack() {
        VineGarden x = Check.sown("g33;#.#;..#;#.#");
        x.vine(0, 4, 0);
        int[] tips = {3, 4, 1, 4, 7, 4, 4};
        for (int day = 0; day < 7; day++) {
            // Back from 3 it heads right, so that 1 is to its left; back from 1 it heads down.
            due("tip on day " + day, x.tip(0, day), tips[day]);
        }
        due("dead", x.ends(0, 1), 6);
        due("doubts", x.doubts(0, 79), 3);
        VineGarden y = Check.sown("g33;#.#;#.#;#.#");
        y.vine(0, 4, 0);
        due("up", y.tip(0, 0), 1);
        due("back", y.tip(0, 1), 4);
        due("on down, where it had not felt", y.tip(0, 2), 7);
        due("back again", y.tip(0, 3), 4);
        due("dead", y.ends(0, 1), 4);
    }

    // ---- kinds

    private static int firstTip(String text, int kind) {
        VineGarden x = Check.sown(text);
        x.vine(kind, 4, 0);
        return x.tip(0, 0);
    }

    private static void kinds(String text, int vine, int climber, int rambler) {
        due(text + " vine", firstTip(text, 0), vine);
        due(text + " climber", firstTip(text, 1), climber);
        due(text + " rambler", firstTip(text, 2), rambler);
    }

    private static void propsAheadOfTheOthers() {
        kinds("g33;#.#;...;###", 3, 3, 5);
        kinds("g33;#.#;#..;###", 1, 1, 5);
        kinds("g33;#.#;..#;###", 3, 3, 1);
        kinds("g33;#.#;p..;###", 3, 3, 3);
        kinds("g33;#p#;...;###", 3, 1, 1);
        kinds("g33;#.#;..p;###", 3, 5, 5);
        kinds("g33;#.#;#.p;###", 1, 5, 5);
        kinds("g33;#x#;p..;###", 3, 3, 3);
        kinds("g33;#x#;x.p;###", 3, 5, 5);
        kinds("g33;###;#.#;#p#", 4, 4, 4);
    }

    private static void severalWithProps() {
        kinds("g33;#p#;p.p;###", 3, 3, 5);
        kinds("g33;#p#;..p;###", 3, 1, 5);
        kinds("g33;#p#;p..;###", 3, 3, 1);
        kinds("g33;#.#;p.p;###", 3, 3, 5);
        kinds("g33;#x#;x.x;###", 3, 3, 5);
        // One with a prop that has a leaf is not free.
        for (int kind = 0; kind < 3; kind++) {
            VineGarden x = Check.sown("g33;#p#;...;###");
            x.vine(0, 1, 0);
            x.vine(kind, 4, 0);
            due("a leaf on a prop", x.tip(1, 0), kind == 2 ? 5 : 3);
        }
    }

    // ---- the last day

    private static void longestLife() {
        VineGarden x = Check.sown("g56;......;......;......;......;......");
        x.vine(0, 0, 2);
        due("its life has the days for all cells, there and back", x.ends(0, 1), 58);
        due("all cells", x.leaves(0, 29), (1L << 30) - 1);
        due("all but one", Long.bitCount(x.leaves(0, 27)), 29);
        due("doubts", x.doubts(0, 79), 29);
        due("where it was planted", x.tip(0, 57), 0);
    }

    private static void frosts(VineGarden x, int from, int to, boolean is) {
        for (int day = from; day <= to; day++) {
            x.frost(day, is);
        }
    }

    private static void outOnTheLastDay() {
        VineGarden x = Check.sown("g13;..x");
        x.vine(0, 0, 1);
        frosts(x, 1, 78, true);
        due("out on day 79", x.ends(0, 0), 79);
        due("the tip is there then", x.tip(0, 79), 2);
        due("and not a day ahead", x.tip(0, 78), 1);
        x.frost(79, true);
        due("it would be day 80", x.ends(0, 0), -9);
        due("the tip is not there", x.tip(0, 79), 1);
        x.frost(0, true);
        x.frost(79, false);
        due("it would be day 80, too", x.ends(0, 0), -9);
        due("leaves by then", x.leaves(0, 79), 3);
    }

    private static void deadOnTheLastDay() {
        VineGarden x = Check.sown("g13;.#x");
        x.vine(0, 0, 1);
        frosts(x, 0, 78, true);
        due("dead on day 79", x.ends(0, 1), 79);
        x.frost(79, true);
        due("it would be day 80", x.ends(0, 1), -9);
        x.frost(0, false);
        due("dead on day 0", x.ends(0, 1), 0);
    }

    private static void doubtOnTheLastDay() {
        VineGarden x = Check.sown("g13;..#");
        x.vine(0, 0, 1);
        frosts(x, 1, 78, true);
        due("doubts on day 78", x.doubts(0, 78), 0);
        due("doubts on day 79", x.doubts(0, 79), 1);
        due("back", x.tip(0, 79), 0);
        due("not dead by then", x.ends(0, 1), -9);
        x.frost(79, true);
        due("no doubt, by frost", x.doubts(0, 79), 0);
    }

    private static void frostOnEachDay() {
        VineGarden x = FULL.make();
        frosts(x, 0, 79, true);
        for (int v = 0; v < 3; v++) {
            due("stands", x.tip(v, 79), x.ofVine(v, 1));
            due("its leaf", x.leaves(v, 79), 1L << x.ofVine(v, 1));
            due("no doubts", x.doubts(v, 79), 0);
            due("not out", x.ends(v, 0), -9);
            due("not dead", x.ends(v, 1), -9);
        }
    }

    private static void leafOfTheLastCell() {
        VineGarden x = Check.sown("g56;######;######;######;######;...x..");
        x.vine(0, 28, 1);
        due("planted", x.leaves(0, 0), 3L << 28);
        due("back from the last cell", x.tip(0, 1), 28);
        due("out to its other side", x.ends(0, 0), 2);
        due("leaves", x.leaves(0, 79), 7L << 27);
    }
}
