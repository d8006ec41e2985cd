/** Part 3 and promises 13 to 17, sentence by sentence: where each boundary is, on both sides. */
public final class WaysEdgesTest {
    private static final Check CHECK = new Check();
    private static final Scene BARE = Scene.bare(CHECK), SOME = Scene.some(CHECK), FULL = Scene.full(CHECK);

    public static void main(String[] args) {
        refusals();
        outside();
        askingChangesNothing();
        shortestSteps();
        shortestNone();
        shortestMinds();
        lawOfEachKind();
        lawOfSeveral();
        lawOfNone();
        lawByFrost();
        lawAmongOthers();
        propOfSeveral();
        propEarlierThanNow();
        propWhereNoneMayBe();
        propByFrost();
        propByAnother();
        closedOfSeveral();
        closedOfEachSign();
        closedEarlierThanNow();
        closedWhereNoneMayBe();
        firstOfNone();
        firstOfSeveral();
        firstOfEachOrder();
        firstOnTheLastDay();
        CHECK.end();
    }

    private static void due(String call, long got, long want) {
        CHECK.due(call, got, want);
    }

    private static VineGarden planted(String text, int kind, int c, int heading) {
        VineGarden x = Check.sown(text);
        due("planted in " + text, x.vine(kind, c, heading), 0);
        return x;
    }

    private static void frosts(VineGarden x, int from, int to) {
        for (int day = from; day <= to; day++) {
            x.frost(day, true);
        }
    }

    // ---- refusals

    private static void refusals() {
        for (int v : Scene.beyond(0, 2)) {
            refused(FULL, v);
        }
        for (int v : Scene.beyond(0, 0)) {
            refused(SOME, v);
        }
        for (int v : new int[] {-1, 0, 1, Scene.MIN, Scene.MAX}) {
            refused(BARE, v);
        }
    }

    private static void refused(Scene scene, int v) {
        scene.keeps("shortest " + v, x -> x.shortest(v), -1);
        for (int what : new int[] {0, 1, 2, -1}) {
            // Unknown is told ahead of outside.
            scene.keeps("law " + v + " " + what, x -> x.law(v, what), -1);
            scene.keeps("prop " + v + " " + what, x -> x.prop(v, what), -1);
            scene.keeps("closed " + v + " " + what, x -> x.closed(v, what), -1);
        }
    }

    private static void outside() {
        for (int what : Scene.beyond(0, 1)) {
            for (int v = 0; v < 3; v++) {
                int of = v;
                FULL.keeps("law, what " + what, x -> x.law(of, what), -2);
                FULL.keeps("prop, what " + what, x -> x.prop(of, what), -2);
                FULL.keeps("closed, what " + what, x -> x.closed(of, what), -2);
            }
            SOME.keeps("law, what " + what, x -> x.law(0, what), -2);
            SOME.keeps("prop, what " + what, x -> x.prop(0, what), -2);
            SOME.keeps("closed, what " + what, x -> x.closed(0, what), -2);
        }
    }

    /** What they try is taken back; the answers were gone through by the plain model. */
    private static void askingChangesNothing() {
        int[][] dues = {{4, 2, 5, -9, 17, 1, 7}, {4, 2, 7, 13, 5, 15, 7}, {2, 0, 2, -9, 3, -9, 3}};
        for (int v = 0; v < 3; v++) {
            int of = v;
            FULL.keeps("shortest " + v, x -> x.shortest(of), dues[v][0]);
            for (int what = 0; what < 2; what++) {
                int asked = what;
                FULL.keeps("law " + v + " " + what, x -> x.law(of, asked), dues[v][1 + what]);
                FULL.keeps("prop " + v + " " + what, x -> x.prop(of, asked), dues[v][3 + what]);
                FULL.keeps("closed " + v + " " + what, x -> x.closed(of, asked), dues[v][5 + what]);
            }
        }
        FULL.keeps("first", x -> x.first(), 2);
        SOME.keeps("first", x -> x.first(), 0);
    }

    // ---- promise 13: shortest

    private static void shortest(String text, int c, int want) {
        for (int heading = 0; heading < 4; heading++) {
            due(text + " from " + c, planted(text, heading % 3, c, heading).shortest(0), want);
        }
    }

    private static void shortestSteps() {
        shortest("g12;.x", 0, 1);
        shortest("g12;xx", 0, 1);
        shortest("g12;xx", 1, 1);
        shortest("g22;.x;..", 2, 2);
        // The longest way that there is in a garden.
        shortest("g56;......;#####.;......;.#####;......", 0, -9);
        shortest("g56;......;#####.;......;.#####;.....x", 0, 19);
        shortest("g56;.#...#;.#.#.#;.#.#.#;.#.#.#;...#.x", 0, 17);
        shortest("g56;.....x;......;......;......;......", 24, 9);
        shortest("g56;......;......;......;......;.....x", 0, 9);
        shortest("g56;x.....;......;......;......;......", 29, 9);
        // The nearer one of two, whichever has the lower number.
        shortest("g16;x...x.", 3, 1);
        shortest("g16;.x...x", 2, 1);
        shortest("g16;x....x", 3, 2);
        // Rows do not go on into one another.
        shortest("g22;#.;x#", 1, -9);
        shortest("g33;..#;##.;x..", 1, -9);
        shortest("g33;..#;#x.;...", 0, 2);
    }

    private static void shortestNone() {
        shortest("g12;..", 0, -9);
        shortest("g12;x.", 0, -9);
        shortest("g12;.#", 0, -9);
        shortest("g13;.#x", 0, -9);
        shortest("g13;x#x", 0, -9);
        shortest("g33;.#x;#..;...", 0, -9);
        shortest("g56;......;......;......;......;......", 14, -9);
    }

    private static void shortestMinds() {
        // From a way out to another one; over props, over cells where others are planted.
        shortest("g13;x.x", 0, 2);
        shortest("g14;xp.x", 0, 3);
        VineGarden x = planted("g14;...x", 0, 0, 3);
        x.vine(0, 1, 1);
        x.vine(0, 2, 1);
        frosts(x, 0, 79);
        due("leaves and frosts do not matter", x.shortest(0), 3);
        due("from where it is planted", x.shortest(1), 2);
        VineGarden y = planted("g14;...x", 0, 0, 1);
        due("its tip is out", y.tip(0, 79), 3);
        due("but it is planted three steps away", y.shortest(0), 3);
        y.set(2, 1);
        due("a hedge is in the way", y.shortest(0), -9);
        y.set(1, 3);
        due("a nearer one", y.shortest(0), 1);
    }

    // ---- promise 14: law

    private static void law(String text, int c, int heading, int kind, int day) {
        for (int own = 0; own < 3; own++) {
            VineGarden x = planted(text, own, c, heading);
            due("law of " + text + ", own " + own, x.law(0, 0), kind);
            due("its day of " + text + ", own " + own, x.law(0, 1), day);
            due("its own kind", x.ofVine(0, 0), own);
        }
    }

    private static void lawOfEachKind() {
        // Left is an end, right is out: a rambler.
        law("g33;###;..x;###", 4, 0, 2, 0);
        // Left is out, right has a prop: a vine.
        law("g33;###;x.p;###", 4, 0, 0, 0);
        // Left and right are ends, ahead is out behind a prop; right has a prop, too: a climber.
        law("g33;#x#;#p#;..p", 7, 0, 1, 1);
    }

    private static void lawOfSeveral() {
        law("g12;.x", 0, 1, 0, 0);
        law("g33;#px;...;###", 4, 0, 1, 1);
        // A vine and a climber alike, a rambler later.
        law("g33;###;x..;###", 4, 0, 0, 0);
        // A vine and a rambler alike, a climber later: left and right are out, ahead has a prop.
        law("g33;#p#;x.x;###", 4, 0, 0, 0);
    }

    private static void lawOfNone() {
        law("g12;..", 0, 1, 0, -9);
        law("g12;.x", 0, 3, 0, -9);
        law("g13;.#x", 0, 1, 0, -9);
    }

    private static void lawByFrost() {
        // On no day is last: two days alone are without frost, by which one kind alone is out.
        String[] texts = {"g33;###;x.p;###", "g33;#x#;#p#;..p", "g33;###;..x;###"};
        int[] cells = {4, 7, 4};
        int[] ends = {78, 79, 78};
        for (int kind = 0; kind < 3; kind++) {
            for (int own = 0; own < 3; own++) {
                VineGarden x = planted(texts[kind], own, cells[kind], 0);
                frosts(x, 0, 77);
                due("law of those days " + kind, x.law(0, 0), kind);
                due("its day", x.law(0, 1), ends[kind]);
                due("own end", x.ends(0, 0), own == kind ? ends[kind] : -9);
                frosts(x, 78, 79);
                due("by none", x.law(0, 0), 0);
                due("on no day", x.law(0, 1), -9);
            }
        }
    }

    private static void lawAmongOthers() {
        VineGarden x = planted("g33;###;..x;###", 0, 4, 0);
        x.vine(0, 5, 1);
        due("the way out has a leaf", x.law(0, 1), -9);
        due("by none", x.law(0, 0), 0);
        due("of the other one", x.law(1, 1), -9);
        VineGarden y = Check.sown("g23;.#.;.x.");
        y.vine(2, 0, 2);
        y.vine(1, 2, 2);
        // Both are at a side of it on day 0, and feel for it on day 1.
        due("the one ahead by number", y.law(0, 1), 1);
        due("the other one never", y.law(1, 1), -9);
        due("kinds stay", 10 * y.ofVine(0, 0) + y.ofVine(1, 0), 21);
    }

    // ---- promise 15: prop

    private static void changed(String call, int cell, int day, int wantCell, int wantDay) {
        due(call, cell, wantCell);
        due(call + ", its day", day, wantDay);
    }

    private static void prop(VineGarden x, int v, int cell, int day) {
        changed("prop", x.prop(v, 0), x.prop(v, 1), cell, day);
    }

    private static void closed(VineGarden x, int v, int cell, int day) {
        changed("closed", x.closed(v, 0), x.closed(v, 1), cell, day);
    }

    private static void propOfSeveral() {
        // By 1 as by 5 it comes to 2 on day 1.
        VineGarden x = planted("g33;#.x;...;###", 1, 4, 0);
        due("now", x.ends(0, 0), 3);
        prop(x, 0, 1, 1);
        // The first cell and the last one are tried, too.
        VineGarden first = planted("g33;.x#;..#;.##", 1, 4, 2);
        due("now", first.ends(0, 0), 4);
        prop(first, 0, 0, 2);
        VineGarden last = planted("g33;##.;#..;#x.", 1, 4, 0);
        due("now", last.ends(0, 0), 4);
        prop(last, 0, 8, 2);
        VineGarden lastOfAll = planted("g56;######;######;######;#####x;###...", 1, 28, 0);
        due("now", lastOfAll.ends(0, 0), 3);
        prop(lastOfAll, 0, 29, 1);
    }

    private static void propEarlierThanNow() {
        // As early as now is not earlier.
        VineGarden x = planted("g13;..x", 1, 0, 1);
        prop(x, 0, -9, 1);
        // A vine minds no props.
        VineGarden y = planted("g33;#.x;...;###", 0, 4, 0);
        prop(y, 0, -9, 3);
        // Never out: any day is earlier.
        VineGarden z = planted("g33;#.x;...;###", 1, 4, 0);
        frosts(z, 2, 79);
        due("not out now", z.ends(0, 0), -9);
        prop(z, 0, 1, 1);
        frosts(z, 1, 1);
        prop(z, 0, -9, -9);
        // None by which it is out.
        VineGarden w = planted("g33;...;...;...", 1, 4, 0);
        prop(w, 0, -9, -9);
        VineGarden u = planted("g12;.x", 1, 0, 1);
        prop(u, 0, -9, 0);
    }

    private static void propWhereNoneMayBe() {
        // A hedge that becomes one with a prop would open the way.
        VineGarden x = planted("g13;.#x", 1, 0, 1);
        prop(x, 0, -9, -9);
        x.set(1, 0);
        due("without it", x.ends(0, 0), 1);
        // A way out that becomes one with a prop would lead on to the other one.
        VineGarden y = planted("g33;#xx;..#;###", 1, 4, 0);
        due("now", y.ends(0, 0), 2);
        prop(y, 0, -9, 2);
        y.set(1, 2);
        due("by it", y.ends(0, 0), 1);
        // One with a prop is none to become one.
        VineGarden z = planted("g33;#px;...;###", 1, 4, 0);
        prop(z, 0, -9, 1);
        // Where another one is planted: the next one is told.
        VineGarden w = planted("g33;#.x;...;###", 1, 4, 0);
        w.vine(0, 1, 3);
        prop(w, 0, 5, 1);
        due("signs stay", w.sign(1) + w.sign(5), 0);
    }

    private static void propByFrost() {
        VineGarden x = planted("g33;#.x;...;###", 1, 4, 0);
        x.frost(0, true);
        prop(x, 0, 1, 2);
        x.frost(2, true);
        prop(x, 0, 1, 3);
        frosts(x, 0, 77);
        prop(x, 0, 1, 79);
        x.frost(78, true);
        prop(x, 0, -9, -9);
    }

    /** A prop turns the first one away from the way out of the second one, which minds none itself. */
    private static void propByAnother() {
        VineGarden x = Check.sown("g33;..x;.#.;.#.");
        x.vine(1, 0, 1);
        x.vine(0, 8, 0);
        due("the first one is out", x.ends(0, 0), 1);
        due("so that the second one is not", x.ends(1, 0), -9);
        prop(x, 1, 3, 1);
        prop(x, 0, -9, 1);
        x.set(3, 2);
        due("by it the second one is out", x.ends(1, 0), 1);
        due("the first one is not", x.ends(0, 0), -9);
        prop(x, 0, 1, 1);
    }

    // ---- promise 16: closed

    private static void closedOfSeveral() {
        // Closed, 1 as 3 spares two days.
        VineGarden x = planted("g33;#.#;..x;###", 0, 4, 0);
        due("now", x.ends(0, 0), 4);
        closed(x, 0, 1, 2);
        x.set(1, 1);
        closed(x, 0, 3, 0);
        // The earliest of several, not the least one.
        VineGarden y = planted("g33;.#x;...;.##", 0, 4, 0);
        due("now", y.ends(0, 0), 7);
        closed(y, 0, 3, 1);
        // The first cell and the last one are tried, too.
        VineGarden first = planted("g23;..x;###", 0, 1, 0);
        due("now", first.ends(0, 0), 2);
        closed(first, 0, 0, 0);
        VineGarden last = planted("g23;###;x..", 0, 4, 2);
        due("now", last.ends(0, 0), 2);
        closed(last, 0, 5, 0);
        VineGarden lastOfAll = planted("g56;######;######;######;######;###x..", 0, 28, 2);
        due("now", lastOfAll.ends(0, 0), 2);
        closed(lastOfAll, 0, 29, 0);
    }

    private static void closedOfEachSign() {
        for (int sign : new int[] {0, 2}) {
            for (int kind = 0; kind < 2; kind++) {
                VineGarden x = planted("g33;#.x;...;###", kind, 4, 0);
                x.set(3, sign);
                closed(x, 0, 3, 1);
                due("the sign stays", x.sign(3), sign);
            }
        }
        // A way out is closed, so that another one goes elsewhere.
        VineGarden x = Check.sown("g33;.x#;..x;###");
        x.vine(0, 0, 1);
        x.vine(0, 4, 0);
        due("now", x.ends(1, 0), 2);
        closed(x, 1, 1, 0);
        due("the way out stays", x.sign(1), 3);
        due("for the first one it is the only way on day 0", x.closed(0, 0), -9);
    }

    private static void closedEarlierThanNow() {
        VineGarden x = planted("g13;..x", 0, 0, 1);
        closed(x, 0, -9, 1);
        VineGarden y = planted("g12;..", 0, 0, 1);
        closed(y, 0, -9, -9);
        VineGarden z = planted("g33;#.x;...;###", 0, 4, 0);
        frosts(z, 2, 79);
        due("not out now", z.ends(0, 0), -9);
        closed(z, 0, 3, 1);
        frosts(z, 1, 1);
        closed(z, 0, -9, -9);
        z.frost(78, false);
        z.frost(79, false);
        closed(z, 0, 3, 78);
        z.frost(0, true);
        closed(z, 0, 3, 79);
        // As early as now by closing what it never comes to: none.
        VineGarden w = planted("g33;#.x;#..;.#.", 0, 4, 0);
        due("now", w.ends(0, 0), 1);
        closed(w, 0, -9, 1);
    }

    private static void closedWhereNoneMayBe() {
        VineGarden x = planted("g33;#.x;...;###", 0, 4, 0);
        closed(x, 0, 3, 1);
        x.vine(0, 3, 3);
        // Its leaf does what a hedge would do.
        closed(x, 0, -9, 1);
        due("none is closed where one is planted", x.sign(3), 0);
        due("nor where it is planted itself", x.sign(4), 0);
    }

    // ---- promise 17: first

    private static void firstOfNone() {
        BARE.keeps("no garden", x -> x.first(), -3);
        VineGarden x = Check.sown("g12;..");
        due("no vines", x.first(), -9);
        x.vine(0, 0, 1);
        due("none is out", x.first(), -9);
        x.set(1, 3);
        due("one is out", x.first(), 0);
        x.pull(1);
        due("no vines again", x.first(), -9);
        VineGarden y = new VineGarden();
        due("a text that fails is no garden", Check.sow(y, "g12;..."), -106);
        due("no garden", y.first(), -3);
    }

    private static void firstOfSeveral() {
        // Three alike, each with its own way out.
        VineGarden x = Check.sown("g33;.x.;###;.x.");
        x.vine(0, 2, 3);
        x.vine(0, 8, 3);
        due("both on day 0", x.ends(0, 0) + x.ends(1, 0), 0);
        due("of several the least", x.first(), 0);
        VineGarden y = Check.sown("g36;..x###;.x####;x.....");
        y.vine(0, 0, 1);
        y.vine(0, 6, 0);
        y.vine(0, 13, 3);
        due("the first one on day 1", y.ends(0, 0), 1);
        due("the second one on day 0", y.ends(1, 0), 0);
        due("the third one on day 0", y.ends(2, 0), 0);
        due("the earliest, of several the least", y.first(), 1);
        y.set(7, 1);
        due("the third one alone on day 0", y.first(), 2);
        y.set(12, 1);
        due("the first one, a day later", y.first(), 0);
        y.set(2, 1);
        due("none", y.first(), -9);
    }

    /** Corridors of their own, as long as told: whichever is the earliest is first. */
    private static void firstOfEachOrder() {
        int[][] orders = {{0, 1, 2}, {0, 2, 1}, {1, 0, 2}, {1, 2, 0}, {2, 0, 1}, {2, 1, 0},
            {0, 0, 1}, {0, 1, 0}, {1, 0, 0}, {1, 1, 0}, {1, 0, 1}, {2, 2, 2}};
        int[] firsts = {0, 0, 1, 2, 1, 2, 0, 0, 1, 2, 1, 0};
        for (int k = 0; k < orders.length; k++) {
            VineGarden x = Check.sown("g54;....;####;....;####;....");
            for (int v = 0; v < 3; v++) {
                x.set(8 * v + 1 + orders[k][v], 3);
                x.vine(v, 8 * v, 1);
                due("its day", x.ends(v, 0), orders[k][v]);
            }
            due("first of order " + k, x.first(), firsts[k]);
        }
    }

    private static void firstOnTheLastDay() {
        VineGarden x = Check.sown("g33;.x.;###;..x");
        x.vine(0, 6, 1);
        x.vine(0, 0, 1);
        due("on day 0, ahead of day 1", x.first(), 1);
        frosts(x, 0, 78);
        due("on day 79, ahead of none", x.first(), 1);
        x.frost(79, true);
        due("none by frost", x.first(), -9);
        x.pull(1);
        x.frost(79, false);
        due("none by day 79", x.first(), -9);
        x.frost(0, false);
        due("on day 79", x.first(), 0);
    }
}
