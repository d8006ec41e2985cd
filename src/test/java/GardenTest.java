/** Promises 1 to 8 and 33: a new object, the garden, its vines, its frosts. */
public final class GardenTest {
    private static final Check CHECK = new Check();
    private static final int MIN = Integer.MIN_VALUE, MAX = Integer.MAX_VALUE;

    public static void main(String[] args) {
        newObject();
        texts();
        firstFaults();
        gardenRefusals();
        gardenMakesAnew();
        signs();
        sets();
        vines();
        ofVines();
        pulls();
        frosts();
        manies();
        CHECK.end();
    }

    private static void due(String call, long got, long want) {
        CHECK.due(call, got, want);
    }

    private static void newObject() {
        VineGarden x = new VineGarden();
        for (int what = 0; what < 4; what++) {
            due("new many " + what, x.many(what), 0);
        }
        due("new fault", x.fault(), 0);
        due("new trace", x.trace(), 0);
        due("new sign", x.sign(0), -1);
        due("new first", x.first(), -3);
        due("new frost", x.frost(0, false), -3);
        for (int k = 0; k < 4; k++) {
            due("new lose", x.lose(k), 0);
            due("new cell", x.cell(k, 0, 0), Long.MIN_VALUE);
            due("new cell's fault", x.fault(), 1);
        }
    }

    private static void texts() {
        VineGarden x = new VineGarden();
        due("least garden", Check.sow(x, "g12;.x"), 2);
        due("wide", x.many(1), 2);
        due("greatest garden", Check.sow(x, "g56;......;######;pppppp;xxxxxx;.#px.#"), 30);
        due("wide", x.many(1), 6);
        due("cells", x.many(0), 30);
        int[] last = {0, 1, 2, 3, 0, 1};
        for (int c = 0; c < 30; c++) {
            due("sign of " + c, x.sign(c), c < 24 ? c / 6 : last[c - 24]);
        }
        for (int lane = 0; lane < 3; lane++) {
            String text = "qqqg22;.#;xpzz";
            Check.write(x, 3, lane, text);
            due("from a place on, lane " + lane, x.garden(3, lane, 3, 9), 4);
            due("sign 0", x.sign(0), 0);
            due("sign 1", x.sign(1), 1);
            due("sign 2", x.sign(2), 3);
            due("sign 3", x.sign(3), 2);
        }
    }

    private static void fault(String text, int place) {
        VineGarden x = Check.sown("g13;#px");
        x.vine(0, 1, 2);
        x.frost(5, true);
        x.reading(0, 3, 2);
        due(text, Check.sow(x, text), -100 - place);
        due("no machine's fault", x.fault(), 0);
        due("cells as before", x.many(0), 3);
        due("sign as before", x.sign(0), 1);
        due("vines as before", x.many(2), 1);
        due("readings as before", x.many(3), 1);
        due("frost as before", x.frost(5, true), 0);
    }

    private static void firstFaults() {
        fault("", 0);
        fault("g", 1);
        fault("g1", 2);
        fault("g12", 3);
        fault("g12;", 4);
        fault("g12;.", 5);
        fault("g22;..", 6);
        fault("g22;..;", 7);
        fault("G12;..", 0);
        fault("g02;..", 1);
        fault("g62;..;..;..;..;..;..", 1);
        fault("g11;.", 2);
        fault("g17;.......", 2);
        fault("g12...", 3);
        fault("g12;;.", 4);
        fault("g12;.o", 5);
        fault("g12;..;", 6);
        fault("g12;...", 6);
        fault("g22;...", 6);
        fault("g22;..;.g", 8);
        VineGarden x = new VineGarden();
        Check.write(x, 0, 2, "g12;..");
        x.put(0, 5, '.' + 65536);
        due("a number beyond shorts is no code", x.garden(0, 2, 0, 6), -105);
        x.put(0, 1, MIN + '1');
        due("a digit is not told by wrapping", x.garden(0, 2, 0, 6), -101);
        x.put(0, 0, -1);
        due("below 0", x.garden(0, 2, 0, 6), -100);
        due("the text of no codes", x.garden(0, 2, 6, 0), -100);
        Check.write(x, 0, 0, "g12;..");
        due("codes after it are not its own", x.garden(0, 0, 0, 5), -105);
    }

    private static void gardenRefusals() {
        VineGarden x = new VineGarden();
        x.sheet(0, 1, 6);
        due("sheet -1", x.garden(-1, 3, -1, -1), -1);
        due("sheet 4", x.garden(4, 0, 0, 0), -1);
        due("lane -1", x.garden(0, -1, -1, -1), -2);
        due("lane 3", x.garden(1, 3, -1, -1), -2);
        due("fault of a refused one", x.fault(), 0);
        due("cast", x.garden(0, 0, -1, -1), -12);
        due("cast's fault", x.fault(), 2);
        due("null", x.garden(1, 0, -1, -1), -11);
        due("null's fault", x.fault(), 1);
        due("size", x.garden(0, 1, -1, -1), -14);
        due("size's fault", x.fault(), 4);
        due("size least", x.garden(0, 1, 0, MIN), -14);
        due("index", x.garden(0, 1, -1, 1), -13);
        due("index's fault", x.fault(), 3);
        due("index beyond", x.garden(0, 1, 1, 6), -13);
        due("index, none taken", x.garden(0, 1, 7, 0), -13);
        due("index, none taken, below", x.garden(0, 1, -1, 0), -13);
        due("all zeros", x.garden(0, 1, 6, 0), -100);
        due("fault of a bad text", x.fault(), 0);
        due("greatest", x.garden(0, 1, MAX, MAX), -13);
        due("least", x.garden(0, 1, MIN, 0), -13);
        x.garden(-1, 0, 0, 0);
        due("fault of an unknown sheet", x.fault(), 0);
        due("no cells", x.many(0), 0);
    }

    private static void gardenMakesAnew() {
        VineGarden x = Check.sown("g13;..x");
        x.vine(2, 1, 0);
        x.frost(0, true);
        x.frost(79, true);
        x.reading(0, 0, 0);
        x.tie(0);
        x.sheet(1, 2, 2);
        x.put(1, 1, 77);
        due("anew", x.garden(0, 0, 0, 7), 3);
        due("no vines", x.many(2), 0);
        due("no readings", x.many(3), 0);
        due("no frost on 0", x.frost(0, false), 0);
        due("no frost on 79", x.frost(79, false), 0);
        due("trace as before", x.trace(), 5);
        due("sheets as before", x.cell(1, 1, 2), 77);
        due("its own sheet as before", x.cell(0, 0, 0), 'g');
        due("planted anew", x.vine(0, 1, 0), 0);
    }

    private static void signs() {
        VineGarden x = Check.sown("g22;.#;px");
        for (int c = 0; c < 4; c++) {
            due("sign", x.sign(c), c);
        }
        due("sign -1", x.sign(-1), -1);
        due("sign 4", x.sign(4), -1);
        due("sign least", x.sign(MIN), -1);
        due("sign greatest", x.sign(MAX), -1);
    }

    private static void sets() {
        VineGarden x = Check.sown("g22;.#;px");
        x.vine(0, 2, 0);
        due("set cell -1", x.set(-1, 9), -1);
        due("set cell 4", x.set(4, 0), -1);
        due("set sign -1", x.set(2, -1), -2);
        due("set sign 4", x.set(2, 4), -2);
        due("set planted", x.set(2, 1), -3);
        due("as before", x.sign(2), 2);
        due("set planted, open", x.set(2, 3), 2);
        due("set", x.set(2, 0), 3);
        due("set a hedge", x.set(0, 1), 0);
        due("set the same", x.set(0, 1), 1);
        due("set a prop", x.set(0, 2), 1);
        due("sign", x.sign(0), 2);
        due("the vine stays", x.ofVine(0, 1), 2);
        VineGarden y = Check.sown("g13;..x");
        y.vine(0, 0, 1);
        due("out", y.ends(0, 0), 1);
        y.set(1, 1);
        due("days are anew by a set", y.ends(0, 0), -9);
        due("dead at once", y.ends(0, 1), 0);
    }

    private static void vines() {
        VineGarden x = Check.sown("g23;.#.;xp.");
        due("cell -1", x.vine(9, -1, 9), -1);
        due("cell 6", x.vine(0, 6, 0), -1);
        due("kind -1", x.vine(-1, 1, 0), -2);
        due("kind 3", x.vine(3, 1, 0), -2);
        due("heading -1", x.vine(0, 1, -1), -2);
        due("heading 4", x.vine(0, 1, 4), -2);
        due("hedge", x.vine(0, 1, 0), -3);
        due("none yet", x.many(2), 0);
        due("first", x.vine(0, 0, 3), 0);
        due("planted there", x.vine(0, 0, 3), -3);
        due("on a way out", x.vine(1, 3, 0), 1);
        due("on a prop", x.vine(2, 4, 0), 2);
        due("full", x.vine(0, 5, 0), -4);
        due("state ahead of full", x.vine(0, 4, 0), -3);
        due("outside ahead of full", x.vine(0, 5, 4), -2);
        due("three", x.many(2), 3);
        VineGarden y = Check.sown("g13;...");
        y.vine(0, 0, 1);
        due("where another one's leaf comes later", y.vine(0, 1, 1), 1);
    }

    private static void ofVines() {
        VineGarden x = Check.sown("g13;..x");
        x.vine(2, 1, 3);
        due("kind", x.ofVine(0, 0), 2);
        due("cell", x.ofVine(0, 1), 1);
        due("heading", x.ofVine(0, 2), 3);
        x.tip(0, 79);
        x.fits(0);
        x.law(0, 0);
        due("heading at first", x.ofVine(0, 2), 3);
        due("kind stays", x.ofVine(0, 0), 2);
        due("what -1", x.ofVine(0, -1), -2);
        due("what 3", x.ofVine(0, 3), -2);
        due("vine -1", x.ofVine(-1, 9), -1);
        due("vine 1", x.ofVine(1, 0), -1);
        due("vine greatest", x.ofVine(MAX, 0), -1);
    }

    private static void pulls() {
        VineGarden x = Check.sown("g14;...x");
        due("none of none", x.pull(0), 0);
        x.vine(0, 0, 1);
        x.vine(1, 1, 1);
        x.vine(2, 2, 1);
        x.reading(0, 0, 0);
        x.reading(2, 0, 0);
        x.reading(1, 0, 0);
        x.reading(2, 1, 0);
        x.reading(0, 79, 1);
        due("-1", x.pull(-1), -2);
        due("4", x.pull(4), -2);
        due("least", x.pull(MIN), -2);
        due("greatest", x.pull(MAX), -2);
        due("none", x.pull(0), 3);
        due("readings stay", x.many(3), 5);
        due("the last one", x.pull(1), 2);
        due("its readings go", x.many(3), 3);
        due("kind of 1", x.ofVine(1, 0), 1);
        due("two is gone", x.ofVine(2, 0), -1);
        due("planted anew", x.vine(0, 2, 1), 2);
        due("without the old readings", x.fits(2), 4095);
        due("two", x.pull(2), 1);
        due("readings of 0", x.many(3), 2);
        due("all", x.pull(1), 0);
        due("no readings", x.many(3), 0);
    }

    private static void frosts() {
        VineGarden x = new VineGarden();
        due("day ahead of state", x.frost(80, true), -1);
        due("state", x.frost(79, true), -3);
        Check.sow(x, "g13;..x");
        due("refused before", x.frost(79, false), 0);
        due("-1", x.frost(-1, true), -1);
        due("80", x.frost(80, true), -1);
        due("frost", x.frost(79, true), 1);
        due("so already", x.frost(79, true), 0);
        due("none", x.frost(79, false), 1);
        due("none already", x.frost(79, false), 0);
        due("day 0", x.frost(0, true), 1);
        x.vine(0, 0, 1);
        due("out a day later", x.ends(0, 0), 2);
        x.frost(0, false);
        due("out", x.ends(0, 0), 1);
    }

    private static void manies() {
        VineGarden x = Check.sown("g24;....;...x");
        x.vine(0, 0, 0);
        x.vine(0, 1, 0);
        x.reading(1, 0, 0);
        due("cells", x.many(0), 8);
        due("wide", x.many(1), 4);
        due("vines", x.many(2), 2);
        due("readings", x.many(3), 1);
        due("-1", x.many(-1), -2);
        due("4", x.many(4), -2);
    }
}
