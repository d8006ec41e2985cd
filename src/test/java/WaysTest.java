/** Promises 13 to 17: shortest, law, prop, closed, first. */
public final class WaysTest {
    private static final Check CHECK = new Check();

    public static void main(String[] args) {
        shortests();
        laws();
        props();
        closeds();
        firsts();
        refusals();
        CHECK.end();
    }

    private static void due(String call, long got, long want) {
        CHECK.due(call, got, want);
    }

    private static void shortest(String text, int c, int want) {
        VineGarden x = Check.sown(text);
        x.vine(0, c, 0);
        due("shortest of " + text + " from " + c, x.shortest(0), want);
    }

    private static void shortests() {
        shortest("g12;.x", 0, 1);
        shortest("g23;.#x;...", 0, 4);
        shortest("g13;x.x", 0, 2);
        shortest("g13;xx.", 0, 1);
        shortest("g13;x..", 0, -9);
        shortest("g13;.#x", 0, -9);
        shortest("g12;..", 0, -9);
        shortest("g23;..#;#.x", 0, 3);
        shortest("g23;..x;#..", 0, 2);
        shortest("g22;.#;#x", 0, -9);
        shortest("g23;..#;x#.", 1, 2);
        shortest("g56;......;#####.;......;.#####;.....x", 0, 19);
        shortest("g23;##.;x##", 2, -9);
        VineGarden x = Check.sown("g14;...x");
        x.vine(0, 0, 3);
        x.vine(0, 1, 1);
        due("leaves do not matter", x.shortest(0), 3);
        x.frost(0, true);
        due("frosts do not matter", x.shortest(0), 3);
    }

    private static void law(String text, int heading, int want, int day) {
        for (int kind = 0; kind < 3; kind++) {
            VineGarden x = Check.sown(text);
            x.vine(kind, 4, heading);
            due("law of " + text + " by " + kind, x.law(0, 0), want);
            due("its day", x.law(0, 1), day);
            due("its kind stays", x.ofVine(0, 0), kind);
        }
    }

    private static void laws() {
        law("g33;###;x.p;###", 0, 0, 0);
        law("g33;###;..x;###", 0, 2, 0);
        law("g33;#px;...;###", 0, 1, 1);
        law("g33;###;...;###", 0, 0, -9);
        law("g33;#x#;...;###", 0, 0, 2);
        VineGarden x = Check.sown("g33;###;..x;###");
        x.vine(0, 4, 0);
        x.frost(0, true);
        due("frosts stay as they are", x.law(0, 1), 1);
        x.vine(0, 5, 0);
        due("vines stay as they are", x.law(0, 1), -9);
    }

    private static void props() {
        VineGarden x = Check.sown("g33;#.x;...;###");
        x.vine(1, 4, 0);
        due("now", x.ends(0, 0), 3);
        due("prop", x.prop(0, 0), 1);
        due("its day", x.prop(0, 1), 1);
        due("the cell stays", x.sign(1), 0);
        due("the day stays", x.ends(0, 0), 3);
        x.vine(0, 1, 3);
        due("not where one is planted", x.prop(0, 0), 5);
        x.pull(2);
        x.vine(0, 4, 0);
        due("a vine sees no props", x.prop(0, 0), -9);
        due("as now", x.prop(0, 1), 3);
        VineGarden y = Check.sown("g33;#.p;...;###");
        y.vine(1, 4, 0);
        due("on no day", y.prop(0, 0), -9);
        due("as now, on no day", y.prop(0, 1), -9);
        VineGarden z = Check.sown("g33;x..;...;...");
        z.vine(1, 4, 0);
        due("now", z.ends(0, 0), 7);
        due("earlier than on this day", z.prop(0, 0), 1);
        due("its day", z.prop(0, 1), 1);
        // Alone with what was a prop already, nothing is better.
        z.set(1, 2);
        due("none", z.prop(0, 0), -9);
        due("as now", z.prop(0, 1), 1);
    }

    private static void closeds() {
        VineGarden x = Check.sown("g33;#.x;...;###");
        x.vine(0, 4, 0);
        due("closed", x.closed(0, 0), 3);
        due("its day", x.closed(0, 1), 1);
        due("the cell stays", x.sign(3), 0);
        x.pull(1);
        x.set(3, 2);
        x.vine(1, 4, 0);
        due("one with a prop", x.closed(0, 0), 3);
        due("its day", x.closed(0, 1), 1);
        due("the prop stays", x.sign(3), 2);
        x.vine(0, 3, 1);
        due("not where one is planted", x.closed(0, 0), -9);
        due("as now", x.closed(0, 1), 1);
        VineGarden y = Check.sown("g12;..");
        y.vine(0, 0, 1);
        due("on no day", y.closed(0, 0), -9);
        due("as now, on no day", y.closed(0, 1), -9);
        // By a hedge in its way out the first one goes down, and shades the second one's left.
        VineGarden z = Check.sown("g33;.x#;..x;###");
        z.vine(0, 0, 1);
        z.vine(0, 4, 0);
        due("the first one is out", z.ends(0, 0), 0);
        due("the second one", z.ends(1, 0), 2);
        due("a way out is closed", z.closed(1, 0), 1);
        due("its day", z.closed(1, 1), 0);
        VineGarden w = Check.sown("g23;.#.;.x.");
        w.vine(0, 0, 2);
        w.vine(0, 5, 3);
        due("planted ones stay", w.closed(0, 0), -9);
        due("second one is the earlier one", w.ends(1, 0), 0);
        due("the first one", w.ends(0, 0), -9);
    }

    private static void firsts() {
        VineGarden x = new VineGarden();
        due("no garden", x.first(), -3);
        Check.sow(x, "g24;x..x;....");
        due("no vines", x.first(), -9);
        x.vine(0, 4, 3);
        due("alone", x.first(), 0);
        x.vine(0, 7, 1);
        due("of several the least", x.first(), 0);
        x.pull(2);
        x.vine(0, 1, 1);
        due("a day late", x.ends(0, 0), 1);
        x.vine(0, 7, 1);
        due("the earlier one", x.first(), 1);
        for (int day = 0; day < 80; day++) {
            x.frost(day, true);
        }
        due("none by frost", x.first(), -9);
        x.frost(79, false);
        due("on the last day", x.first(), 1);
    }

    private static void refusals() {
        VineGarden x = Check.sown("g13;..x");
        x.vine(1, 0, 1);
        for (int v : new int[] {-1, 1, Integer.MIN_VALUE, Integer.MAX_VALUE}) {
            due("shortest", x.shortest(v), -1);
            due("law", x.law(v, 9), -1);
            due("prop", x.prop(v, 9), -1);
            due("closed", x.closed(v, 9), -1);
        }
        for (int what : new int[] {-1, 2, Integer.MIN_VALUE, Integer.MAX_VALUE}) {
            due("law", x.law(0, what), -2);
            due("prop", x.prop(0, what), -2);
            due("closed", x.closed(0, what), -2);
        }
    }
}
