/** Promises 9 to 12: tips, leaves, doubts, ends. */
public final class DaysTest {
    private static final Check CHECK = new Check();

    public static void main(String[] args) {
        wayOut();
        plantedOnAWayOut();
        behindIsNotFelt();
        doubles();
        kinds();
        shade();
        frosts();
        refusals();
        CHECK.end();
    }

    private static void due(String call, long got, long want) {
        CHECK.due(call, got, want);
    }

    private static void wayOut() {
        VineGarden x = Check.sown("g14;..x.");
        x.vine(0, 0, 1);
        due("tip 0", x.tip(0, 0), 1);
        due("tip 1", x.tip(0, 1), 2);
        due("tip 2", x.tip(0, 2), 2);
        due("tip 79", x.tip(0, 79), 2);
        due("leaves 0", x.leaves(0, 0), 3);
        due("leaves 1", x.leaves(0, 1), 7);
        due("leaves 79", x.leaves(0, 79), 7);
        due("doubts", x.doubts(0, 79), 0);
        due("out", x.ends(0, 0), 1);
        due("dead", x.ends(0, 1), -9);
    }

    private static void plantedOnAWayOut() {
        VineGarden x = Check.sown("g12;x.");
        x.vine(0, 0, 1);
        due("tip 0", x.tip(0, 0), 1);
        due("tip 1", x.tip(0, 1), 0);
        due("doubts 0", x.doubts(0, 0), 0);
        due("doubts 1", x.doubts(0, 1), 1);
        due("doubts 79: to be dead is no doubt", x.doubts(0, 79), 1);
        due("never out", x.ends(0, 0), -9);
        due("dead", x.ends(0, 1), 2);
    }

    private static void behindIsNotFelt() {
        VineGarden x = Check.sown("g13;..x");
        x.vine(0, 0, 3);
        due("tip", x.tip(0, 79), 0);
        due("leaves", x.leaves(0, 79), 1);
        due("doubts", x.doubts(0, 79), 0);
        due("dead on day 0", x.ends(0, 1), 0);
        VineGarden y = Check.sown("g13;...");
        y.vine(0, 1, 1);
        int[] tips = {2, 1, 0, 1, 1};
        for (int day = 0; day < tips.length; day++) {
            due("tip on " + day, y.tip(0, day), tips[day]);
        }
        due("dead", y.ends(0, 1), 4);
        due("doubts", y.doubts(0, 79), 2);
    }

    /** Into a dead end of three cells, and all the way back. */
    private static void doubles() {
        VineGarden x = Check.sown("g33;..#;#.#;#x#");
        x.vine(0, 0, 1);
        x.set(7, 1);
        int[] tips = {1, 4, 1, 0, 0};
        int[] doubts = {0, 0, 1, 2, 2};
        long[] leaves = {3, 19, 19, 19, 19};
        for (int day = 0; day < tips.length; day++) {
            due("tip on " + day, x.tip(0, day), tips[day]);
            due("doubts on " + day, x.doubts(0, day), doubts[day]);
            due("leaves on " + day, x.leaves(0, day), leaves[day]);
        }
        due("dead", x.ends(0, 1), 4);
        x.set(7, 3);
        due("out", x.ends(0, 0), 2);
        due("not dead", x.ends(0, 1), -9);
        VineGarden y = Check.sown("g55;.....;.....;.....;.....;.....");
        y.vine(0, 12, 0);
        due("25 cells, all in a row", y.leaves(0, 79), (1L << 25) - 1);
        due("back where it was planted", y.tip(0, 79), 12);
        due("dead", y.ends(0, 1), 48);
        due("doubts", y.doubts(0, 79), 24);
    }

    private static void step(String text, int kind, int want) {
        VineGarden x = Check.sown(text);
        x.vine(kind, 4, 0);
        due(text + " kind " + kind, x.tip(0, 0), want);
    }

    private static void kinds() {
        String[] texts = {
            "g33;...;...;...", "g33;.p.;...;...", "g33;...;p.p;...", "g33;.p.;..p;...",
            "g33;.p.;p.p;...", "g33;...;x.p;...", "g33;...;#.#;...", "g33;...;.p#;..."};
        int[][] tips = {{3, 3, 5}, {3, 1, 1}, {3, 3, 5}, {3, 1, 5}, {3, 3, 5}, {3, 5, 5}, {1, 1, 1}, {3, 3, 1}};
        for (int k = 0; k < texts.length; k++) {
            for (int kind = 0; kind < 3; kind++) {
                step(texts[k], kind, tips[k][kind]);
            }
        }
        int[] left = {3, 1, 5, 7};
        for (int heading = 0; heading < 4; heading++) {
            VineGarden x = Check.sown("g33;...;...;...");
            x.vine(0, 4, heading);
            due("left of " + heading, x.tip(0, 0), left[heading]);
            x.pull(1);
            x.vine(2, 4, heading);
            due("right of " + heading, x.tip(0, 0), left[(heading + 2) % 4]);
        }
    }

    private static void shade() {
        VineGarden x = Check.sown("g13;...");
        x.vine(0, 0, 1);
        x.vine(0, 2, 3);
        due("the first one goes first", x.tip(0, 0), 1);
        due("the second one's dead", x.ends(1, 1), 0);
        due("its leaf stays", x.ends(0, 1), 2);
        due("doubts", x.doubts(0, 79), 1);
        due("leaves are one's own", x.leaves(0, 79), 3);
        due("leaves of the second one", x.leaves(1, 79), 4);
        VineGarden y = Check.sown("g13;.x.");
        y.vine(0, 0, 1);
        y.vine(0, 2, 3);
        due("out", y.ends(0, 0), 0);
        due("the way out has a leaf now", y.ends(1, 0), -9);
        due("dead", y.ends(1, 1), 0);
    }

    private static void frosts() {
        VineGarden x = Check.sown("g13;..x");
        x.vine(0, 0, 1);
        x.frost(0, true);
        x.frost(2, true);
        due("tip 0", x.tip(0, 0), 0);
        due("leaves 0", x.leaves(0, 0), 1);
        due("tip 1", x.tip(0, 1), 1);
        due("tip 2", x.tip(0, 2), 1);
        due("tip 3", x.tip(0, 3), 2);
        due("out", x.ends(0, 0), 3);
        for (int day = 0; day < 79; day++) {
            x.frost(day, true);
        }
        due("tip 78", x.tip(0, 78), 0);
        due("tip 79", x.tip(0, 79), 1);
        due("not out", x.ends(0, 0), -9);
        x.frost(78, false);
        due("out on the last day", x.ends(0, 0), 79);
        VineGarden y = Check.sown("g12;x.");
        y.vine(0, 0, 1);
        y.frost(1, true);
        due("doubts 1", y.doubts(0, 1), 0);
        due("doubts 2", y.doubts(0, 2), 1);
        due("dead", y.ends(0, 1), 3);
    }

    private static void refusals() {
        VineGarden x = Check.sown("g13;..x");
        x.vine(0, 0, 1);
        int[] days = {-1, 80, Integer.MIN_VALUE, Integer.MAX_VALUE};
        for (int day : days) {
            due("tip", x.tip(0, day), -1);
            due("leaves", x.leaves(0, day), Long.MIN_VALUE);
            due("doubts", x.doubts(0, day), -1);
        }
        for (int v : new int[] {-1, 1, 3, Integer.MAX_VALUE}) {
            due("tip of " + v, x.tip(v, 0), -1);
            due("leaves of " + v, x.leaves(v, 0), Long.MIN_VALUE);
            due("doubts of " + v, x.doubts(v, 0), -1);
            due("ends of " + v, x.ends(v, 9), -1);
        }
        due("what -1", x.ends(0, -1), -2);
        due("what 2", x.ends(0, 2), -2);
        due("what least", x.ends(0, Integer.MIN_VALUE), -2);
    }
}
