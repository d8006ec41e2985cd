/** Part 1 and promises 1 to 8, sentence by sentence: where each boundary is, on both sides. */
public final class GardenEdgesTest {
    private static final Check CHECK = new Check();
    private static final Scene BARE = Scene.bare(CHECK), SOME = Scene.some(CHECK), FULL = Scene.full(CHECK);
    private static final int MIN = Integer.MIN_VALUE, MAX = Integer.MAX_VALUE;

    public static void main(String[] args) {
        newObject();
        newObjectHasNoCellsAndVines();
        lastCalls();
        gardenOfUnknownSheet();
        gardenOfLaneOutside();
        gardenCast();
        gardenNull();
        gardenSize();
        gardenIndex();
        gardenAtTheEndOfASheet();
        gardenOfNoCodes();
        everyCodeAtEveryPlace();
        numbersThatAreNoCodes();
        everyHighAndWide();
        failedTexts();
        codesByTheirPlace();
        takenTextMakesAnew();
        smallerGarden();
        signEdges();
        setRefusals();
        setPlanted();
        setsOfEachSign();
        vineRefusals();
        vinePlaces();
        vinesOfEachKindAndHeading();
        ofVineEdges();
        pullEdges();
        pullOfReadings();
        frostRefusals();
        frostDays();
        CHECK.end();
    }

    private static void due(String call, long got, long want) {
        CHECK.due(call, got, want);
    }

    // ---- promise 1: a new object

    private static void newObject() {
        VineGarden x = new VineGarden();
        due("fault ahead of any", x.fault(), 0);
        due("trace", x.trace(), 0);
        due("no cells", x.many(0), 0);
        due("no width", x.many(1), 0);
        due("no vines", x.many(2), 0);
        due("no readings", x.many(3), 0);
        for (int k = 0; k < 4; k++) {
            due("sheet has nothing", x.lose(k), 0);
            due("sheet has nothing to put into", x.put(k, 0, 1), -11);
        }
    }

    private static void newObjectHasNoCellsAndVines() {
        BARE.keeps("sign 0", x -> x.sign(0), -1);
        BARE.keeps("set 0 0", x -> x.set(0, 0), -1);
        BARE.keeps("vine 0 0 0", x -> x.vine(0, 0, 0), -1);
        BARE.keeps("ofVine 0 0", x -> x.ofVine(0, 0), -1);
        BARE.keeps("tip 0 0", x -> x.tip(0, 0), -1);
        BARE.keeps("leaves 0 0", x -> x.leaves(0, 0), Scene.LOST);
        BARE.keeps("doubts 0 0", x -> x.doubts(0, 0), -1);
        BARE.keeps("ends 0 0", x -> x.ends(0, 0), -1);
        BARE.keeps("shortest 0", x -> x.shortest(0), -1);
        BARE.keeps("law 0 0", x -> x.law(0, 0), -1);
        BARE.keeps("prop 0 0", x -> x.prop(0, 0), -1);
        BARE.keeps("closed 0 0", x -> x.closed(0, 0), -1);
        BARE.keeps("first", x -> x.first(), -3);
        BARE.keeps("odds 0 0 0 0", x -> x.odds(0, 0, 0, 0), Scene.LOST);
        BARE.keeps("reading 0 0 0", x -> x.reading(0, 0, 0), -1);
        BARE.keeps("fits 0", x -> x.fits(0), -1);
        BARE.keeps("tell 0", x -> x.tell(0), -1);
        BARE.keeps("tie 0", x -> x.tie(0), -1);
        BARE.keepsFaultless("as 0 0", x -> x.as(0, 0), -1);
    }

    /** An object is used for 512 calls: by the last ones all its places are taken once more. */
    private static void lastCalls() {
        VineGarden x = new VineGarden();
        String text = "g24;....;....";
        Check.sow(x, text);
        int calls = text.length() + 2;
        while (calls + 3 <= 500) {
            due("vine, call " + (calls + 1), x.vine(calls % 3, 0, 1), 0);
            due("reading, call " + (calls + 2), x.reading(0, 0, 1), 0);
            due("pull, call " + (calls + 3), x.pull(1), 0);
            calls += 3;
        }
        while (calls < 500) {
            x.many(0);
            calls++;
        }
        for (int v = 0; v < 3; v++) {
            due("vine " + v + " at the end", x.vine(v, v, 1), v);
        }
        for (int r = 0; r < 8; r++) {
            due("reading " + r + " at the end", x.reading(2, 79, r), r);
        }
        due("full, on call 512", x.reading(2, 0, 0), -4);
    }

    // ---- promise 2: garden

    private static void gardenOfUnknownSheet() {
        for (int k : Scene.beyond(0, 3)) {
            FULL.keepsFaultless("garden of sheet " + k, x -> x.garden(k, 0, 0, 38), -1);
            FULL.keepsFaultless("unknown ahead of outside, faults: " + k, x -> x.garden(k, 3, -1, -1), -1);
            BARE.keepsFaultless("garden of sheet " + k, x -> x.garden(k, 0, 0, 0), -1);
        }
    }

    private static void gardenOfLaneOutside() {
        for (int lane : Scene.beyond(0, 2)) {
            for (int k = 0; k < 4; k++) {
                int sheet = k;
                FULL.keepsFaultless("outside ahead of faults: " + lane, x -> x.garden(sheet, lane, -1, -1), -2);
            }
            BARE.keepsFaultless("outside ahead of null: " + lane, x -> x.garden(0, lane, 0, 0), -2);
        }
    }

    private static void gardenCast() {
        for (int k = 0; k < 3; k++) {
            for (int lane = 0; lane < 3; lane++) {
                int sheet = k;
                int as = lane;
                if (as != sheet) {
                    FULL.fails("sheet " + sheet + " as " + as, x -> x.garden(sheet, as, 0, 0), 2);
                    FULL.fails("cast ahead of size and index", x -> x.garden(sheet, as, -1, -1), 2);
                    FULL.fails("cast ahead of index", x -> x.garden(sheet, as, 51, 1), 2);
                }
            }
        }
    }

    private static void gardenNull() {
        for (int lane = 0; lane < 3; lane++) {
            int as = lane;
            FULL.fails("nothing is no cast, lane " + as, x -> x.garden(3, as, 0, 0), 1);
            FULL.fails("null ahead of size and index, lane " + as, x -> x.garden(3, as, -1, -1), 1);
            BARE.fails("null ahead of index, lane " + as, x -> x.garden(2, as, 1, 1), 1);
        }
        BARE.fails("null ahead of size", x -> x.garden(0, 0, 0, MIN), 1);
    }

    private static void gardenSize() {
        for (int n : new int[] {-1, -38, MIN}) {
            FULL.fails("size " + n, x -> x.garden(0, 0, 0, n), 4);
            for (int i : new int[] {-1, 51, MIN, MAX}) {
                FULL.fails("size ahead of index, from " + i + ": " + n, x -> x.garden(0, 0, i, n), 4);
            }
            FULL.fails("size, of no ints: " + n, x -> x.garden(2, 2, 0, n), 4);
        }
    }

    private static void gardenIndex() {
        int[][] froms = {{0, 51}, {1, 50}, {50, 1}, {51, 0}, {51, 1}, {-1, 0}, {-1, 1}, {-1, 39}, {-38, 38},
            {MIN, 0}, {MIN, 1}, {MIN, MAX}, {MAX, 0}, {MAX, 1}, {MAX, MAX}, {0, MAX}, {1, MAX}, {50, MAX}};
        for (int[] from : froms) {
            String call = "from " + from[0] + ", " + from[1];
            FULL.fails(call, x -> x.garden(0, 0, from[0], from[1]), 3);
        }
        FULL.fails("one of no ints", x -> x.garden(2, 2, 0, 1), 3);
        FULL.fails("none of no ints, from 1", x -> x.garden(2, 2, 1, 0), 3);
        FULL.fails("none of no ints, from -1", x -> x.garden(2, 2, -1, 0), 3);
        FULL.fails("four of three shorts", x -> x.garden(1, 1, 0, 4), 3);
    }

    private static void gardenAtTheEndOfASheet() {
        for (int lane = 0; lane < 3; lane++) {
            VineGarden x = new VineGarden();
            x.sheet(3, lane, 50);
            put(x, 3, 44, "g12;.x");
            due("one too many", x.garden(3, lane, 44, 7), -13);
            due("from one place later", x.garden(3, lane, 45, 6), -13);
            due("no garden yet", x.many(0), 0);
            due("the last six", x.garden(3, lane, 44, 6), 2);
            due("no fault", x.fault(), 0);
            put(x, 3, 12, Scene.FULL_TEXT);
            due("the last 38", x.garden(3, lane, 12, 38), 30);
            put(x, 3, 0, Scene.FULL_TEXT);
            due("the first 38", x.garden(3, lane, 0, 38), 30);
        }
    }

    private static void put(VineGarden x, int k, int from, String text) {
        for (int i = 0; i < text.length(); i++) {
            x.put(k, from + i, text.charAt(i));
        }
    }

    private static void gardenOfNoCodes() {
        FULL.keepsFaultless("none of 50, from 0", x -> x.garden(0, 0, 0, 0), -100);
        FULL.keepsFaultless("none of 50, from 49", x -> x.garden(0, 0, 49, 0), -100);
        FULL.keepsFaultless("none of 50, from 50", x -> x.garden(0, 0, 50, 0), -100);
        FULL.keepsFaultless("none of no ints", x -> x.garden(2, 2, 0, 0), -100);
        FULL.keepsFaultless("none of three shorts, from 3", x -> x.garden(1, 1, 3, 0), -100);
    }

    /** What is due if one code of g12;.x becomes another one. */
    private static int dueOf(int place, int code) {
        switch (place) {
            case 0:
                return code == 'g' ? 2 : -100;
            case 1:
                // With more rows to come the text just ends too soon.
                return code == '1' ? 2 : code >= '2' && code <= '5' ? -106 : -101;
            case 2:
                return code == '2' ? 2 : code >= '3' && code <= '6' ? -106 : -102;
            case 3:
                return code == ';' ? 2 : -103;
            default:
                return code == 46 || code == 35 || code == 112 || code == 120 ? 2 : -100 - place;
        }
    }

    private static void everyCodeAtEveryPlace() {
        for (int place = 0; place < 6; place++) {
            VineGarden x = new VineGarden();
            for (int code = -128; code < 128; code++) {
                if (code % 64 == 0) {
                    x = Check.sown("g13;#px");
                    x.vine(0, 1, 2);
                    Check.write(x, 0, 0, "g12;.x");
                }
                x.put(0, place, code);
                int want = dueOf(place, code);
                due("code " + code + " at " + place, x.garden(0, 0, 0, 6), want);
                due("its fault", x.fault(), 0);
                if (want > 0) {
                    due("cells", x.many(0), 2);
                    Check.sow(x, "g13;#px");
                    x.vine(0, 1, 2);
                    Check.write(x, 0, 0, "g12;.x");
                }
                due("cells as before", x.many(0), 3);
                due("vines as before", x.many(2), 1);
            }
        }
    }

    private static void numbersThatAreNoCodes() {
        String text = "g12;.x";
        for (int place = 0; place < 6; place++) {
            int code = text.charAt(place);
            VineGarden shorts = new VineGarden();
            Check.write(shorts, 0, 1, text);
            VineGarden ints = new VineGarden();
            Check.write(ints, 0, 2, text);
            for (int other : new int[] {code + 256, code - 256, code + 32768, -code, -1, -32768, 32767}) {
                shorts.put(0, place, other);
                due("short " + other + " at " + place, shorts.garden(0, 1, 0, 6), -100 - place);
            }
            for (int other : new int[] {code + 256, code + 65536, code - 65536, code + MIN, MIN, MIN + 47, MAX, -1}) {
                ints.put(0, place, other);
                due("int " + other + " at " + place, ints.garden(0, 2, 0, 6), -100 - place);
            }
            due("no garden", ints.many(0) + shorts.many(0), 0);
            shorts.put(0, place, code + 65536);
            due("cut to a code at " + place, shorts.garden(0, 1, 0, 6), 2);
            ints.put(0, place, code);
            due("a code at " + place, ints.garden(0, 2, 0, 6), 2);
        }
    }

    private static String rows(int high, int wide) {
        StringBuilder text = new StringBuilder("g").append((char) ('0' + high)).append((char) ('0' + wide));
        for (int row = 0; row < high; row++) {
            text.append(';');
            for (int column = 0; column < wide; column++) {
                text.append(".#px".charAt((row + column) % 4));
            }
        }
        return text.toString();
    }

    private static void everyHighAndWide() {
        for (int high = -1; high <= 10; high++) {
            for (int wide = -1; wide <= 10; wide++) {
                String text = rows(high, wide);
                if (text.length() <= 50) {
                    highAndWide(text, high, wide);
                }
            }
        }
        due("the longest text", rows(5, 6).length(), 38);
    }

    private static void highAndWide(String text, int high, int wide) {
        boolean isHigh = high >= 1 && high <= 5;
        boolean isWide = wide >= 2 && wide <= 6;
        VineGarden x = new VineGarden();
        int want = !isHigh ? -101 : !isWide ? -102 : high * wide;
        due(text, Check.sow(x, text), want);
        due(text + ": cells", x.many(0), Math.max(want, 0));
        due(text + ": wide", x.many(1), want > 0 ? wide : 0);
        if (want < 0) {
            return;
        }
        for (int c = 0; c < want; c++) {
            due(text + ": sign of " + c, x.sign(c), (c / wide + c % wide) % 4);
        }
        due(text + ": no cell more", x.sign(want), -1);
        for (int n = 0; n < text.length(); n++) {
            due(text + " ends too soon", x.garden(0, 0, 0, n), -100 - n);
        }
        due("cells as before", x.many(0), want);
        for (char more : ";.#pxg12".toCharArray()) {
            due(text + more, Check.sow(x, text + more), -100 - text.length());
        }
        due("cells as before", x.many(0), want);
    }

    private static void failedTexts() {
        for (int n = 0; n < 38; n++) {
            int length = n;
            FULL.keepsFaultless("too soon by " + (38 - n), x -> x.garden(0, 0, 0, length), -100 - n);
        }
        FULL.keepsFaultless("one too long", x -> x.garden(0, 0, 0, 39), -138);
        FULL.keepsFaultless("all 50", x -> x.garden(0, 0, 0, 50), -138);
        FULL.keepsFaultless("from its second code on", x -> x.garden(0, 0, 1, 37), -100);
        FULL.keepsFaultless("shorts that are no codes", x -> x.garden(1, 1, 0, 3), -100);
        SOME.keepsFaultless("too soon", x -> x.garden(0, 0, 0, 10), -110);
        // The first one of two faults, whichever is the plainer one.
        VineGarden x = new VineGarden();
        due("sign ahead of length", Check.sow(x, "g22;.o"), -105);
        due("high ahead of wide", Check.sow(x, "g61;"), -101);
        due("wide ahead of its rows", Check.sow(x, "g17.."), -102);
        due("a row too short", Check.sow(x, "g23;..;..."), -106);
        due("a row too long", Check.sow(x, "g22;...;.."), -106);
        due("a row too many", Check.sow(x, "g12;..;.."), -106);
        due("no garden", x.many(0), 0);
    }

    private static void codesByTheirPlace() {
        VineGarden x = Check.sown("g56;.#px.#;#px.#p;px.#px;x.#px.;######");
        int[] firsts = {0, 1, 2, 3};
        for (int row = 0; row < 4; row++) {
            for (int column = 0; column < 6; column++) {
                int c = 6 * row + column;
                due("by rows from above, from the left: " + c, x.sign(c), firsts[(row + column) % 4]);
            }
        }
        for (int c = 24; c < 30; c++) {
            due("the last row", x.sign(c), 1);
        }
    }

    private static void takenTextMakesAnew() {
        VineGarden x = FULL.make();
        due("taken", x.garden(0, 0, 0, 38), 30);
        due("no fault", x.fault(), 0);
        due("no vines", x.many(2), 0);
        due("no readings", x.many(3), 0);
        due("none is first", x.first(), -9);
        for (int day = 0; day < 80; day++) {
            due("no frost on " + day, x.frost(day, false), 0);
        }
        due("trace stays", x.trace(), FULL.make().trace());
        for (int i = 0; i < 38; i++) {
            due("its sheet stays", x.cell(0, i, 0), Scene.FULL_TEXT.charAt(i));
        }
        due("other sheets stay", x.cell(1, 2, 1), -302);
        due("no ints", x.put(2, 0, 1), -13);
        due("nothing", x.put(3, 0, 1), -11);
        due("planted anew, as number 0", x.vine(0, 0, 1), 0);
        due("no readings of it", x.fits(0), 4095);
        due("read anew, as number 0", x.reading(0, 0, 0), 0);
        VineGarden y = SOME.make();
        y.set(0, 1);
        due("signs that were set are gone", Check.sow(y, "g23;.#.;xp."), 6);
        due("as told", y.sign(0), 0);
    }

    private static void smallerGarden() {
        VineGarden x = FULL.make();
        due("smaller", Check.sow(x, "g12;.."), 2);
        due("cell 1", x.sign(1), 0);
        due("cell 2 is gone", x.sign(2), -1);
        due("cell 29 is gone", x.set(29, 0), -1);
        x.vine(0, 0, 2);
        due("nothing below the last row", x.tip(0, 79), 0);
        due("but one to its left", Check.sow(x, "g12;.."), 2);
        x.vine(0, 0, 2);
        due("its left is cell 1", x.tip(0, 0), 1);
        due("back again", x.tip(0, 1), 0);
        due("larger again", x.garden(0, 0, 0, 6), 2);
    }

    // ---- promise 3: sign

    private static void signEdges() {
        for (int c : Scene.beyond(0, 29)) {
            FULL.keeps("sign " + c, x -> x.sign(c), -1);
        }
        for (int c : Scene.beyond(0, 5)) {
            SOME.keeps("sign " + c, x -> x.sign(c), -1);
        }
        for (int c : new int[] {-1, 0, 1, MIN, MAX}) {
            BARE.keeps("sign " + c, x -> x.sign(c), -1);
        }
        FULL.keeps("sign 0", x -> x.sign(0), 0);
        FULL.keeps("sign 29", x -> x.sign(29), 3);
        FULL.keeps("sign 6", x -> x.sign(6), 0);
        FULL.keeps("sign 7", x -> x.sign(7), 1);
        FULL.keeps("sign 2", x -> x.sign(2), 2);
        SOME.keeps("sign 5", x -> x.sign(5), 0);
    }

    // ---- promise 4: set

    private static void setRefusals() {
        for (int c : Scene.beyond(0, 29)) {
            FULL.keeps("set " + c, x -> x.set(c, 0), -1);
            FULL.keeps("unknown ahead of outside: " + c, x -> x.set(c, 4), -1);
        }
        for (int c : Scene.beyond(0, 5)) {
            SOME.keeps("set " + c, x -> x.set(c, 1), -1);
        }
        for (int sign : Scene.beyond(0, 3)) {
            FULL.keeps("set 0, where one is planted, to " + sign, x -> x.set(0, sign), -2);
            FULL.keeps("set 29 to " + sign, x -> x.set(29, sign), -2);
            BARE.keeps("no cell to set to " + sign, x -> x.set(0, sign), -1);
        }
    }

    private static void setPlanted() {
        for (int c : new int[] {0, 14, 26}) {
            FULL.keeps("a hedge where one is planted: " + c, x -> x.set(c, 1), -3);
            for (int sign : new int[] {0, 2, 3}) {
                VineGarden x = FULL.make();
                due("no hedge where one is planted", x.set(c, sign), 0);
                due("sign", x.sign(c), sign);
            }
        }
        SOME.keeps("a hedge where one is planted", x -> x.set(2, 1), -3);
        VineGarden x = FULL.make();
        due("a hedge where a leaf is", x.set(1, 1), 0);
        due("a hedge where a tip is at the end", x.set(29, 1), 3);
        x.pull(1);
        due("a hedge where none is planted any more", x.set(26, 1), 0);
        due("the others stay planted", x.set(14, 1), -3);
    }

    private static void setsOfEachSign() {
        VineGarden x = Check.sown("g12;..");
        int was = 0;
        for (int sign : new int[] {0, 1, 1, 2, 2, 3, 3, 0, 2, 1, 3, 2, 0, 3, 1, 0}) {
            due("set to " + sign, x.set(1, sign), was);
            due("sign", x.sign(1), sign);
            was = sign;
        }
        due("cell 0 stays", x.sign(0), 0);
    }

    // ---- promise 5: vine

    private static void vineRefusals() {
        for (int c : Scene.beyond(0, 29)) {
            FULL.keeps("vine at " + c, x -> x.vine(0, c, 0), -1);
            FULL.keeps("unknown ahead of outside: " + c, x -> x.vine(3, c, 4), -1);
        }
        for (int c : Scene.beyond(0, 5)) {
            SOME.keeps("vine at " + c, x -> x.vine(0, c, 0), -1);
        }
        for (int kind : Scene.beyond(0, 2)) {
            SOME.keeps("kind " + kind, x -> x.vine(kind, 0, 0), -2);
            SOME.keeps("outside ahead of state: " + kind, x -> x.vine(kind, 1, 0), -2);
            FULL.keeps("outside ahead of full: " + kind, x -> x.vine(kind, 1, 0), -2);
            BARE.keeps("unknown ahead of kind " + kind, x -> x.vine(kind, 0, 0), -1);
        }
        for (int heading : Scene.beyond(0, 3)) {
            SOME.keeps("heading " + heading, x -> x.vine(0, 0, heading), -2);
            SOME.keeps("outside ahead of state: " + heading, x -> x.vine(0, 2, heading), -2);
            FULL.keeps("outside ahead of full: " + heading, x -> x.vine(0, 1, heading), -2);
        }
        SOME.keeps("a hedge", x -> x.vine(0, 1, 0), -3);
        SOME.keeps("one is planted there", x -> x.vine(0, 2, 0), -3);
        FULL.keeps("state ahead of full: a hedge", x -> x.vine(0, 7, 0), -3);
        FULL.keeps("state ahead of full: one is planted there", x -> x.vine(0, 26, 0), -3);
        FULL.keeps("full", x -> x.vine(0, 1, 0), -4);
        FULL.keeps("full, on a way out", x -> x.vine(2, 29, 3), -4);
    }

    private static void vinePlaces() {
        VineGarden x = Check.sown("g22;.#;px");
        due("the first one is 0", x.vine(0, 0, 0), 0);
        due("on a prop", x.vine(1, 2, 1), 1);
        due("on a way out", x.vine(2, 3, 3), 2);
        x.set(1, 0);
        due("a fourth one", x.vine(0, 1, 0), -4);
        x.pull(1);
        due("a third one again, where a hedge was", x.vine(0, 1, 2), 2);
        x.pull(3);
        due("the first one again, where one was", x.vine(0, 3, 0), 0);
        VineGarden y = Check.sown("g13;...");
        y.vine(0, 0, 1);
        due("its tip comes to cell 2", y.tip(0, 1), 2);
        due("a leaf there is no vine planted there", y.vine(0, 2, 3), 1);
        due("now it is shaded", y.tip(0, 79), 0);
    }

    private static void vinesOfEachKindAndHeading() {
        for (int kind = 0; kind < 3; kind++) {
            for (int heading = 0; heading < 4; heading++) {
                VineGarden x = Check.sown("g56;......;......;......;......;......");
                due("vine", x.vine(kind, 29, heading), 0);
                due("kind", x.ofVine(0, 0), kind);
                due("cell", x.ofVine(0, 1), 29);
                due("heading", x.ofVine(0, 2), heading);
            }
        }
    }

    // ---- promise 6: ofVine

    private static void ofVineEdges() {
        for (int v : Scene.beyond(0, 2)) {
            FULL.keeps("of vine " + v, x -> x.ofVine(v, 0), -1);
            FULL.keeps("unknown ahead of outside: " + v, x -> x.ofVine(v, 3), -1);
        }
        for (int v : Scene.beyond(0, 0)) {
            SOME.keeps("of vine " + v, x -> x.ofVine(v, 0), -1);
        }
        for (int what : Scene.beyond(0, 2)) {
            FULL.keeps("what " + what, x -> x.ofVine(2, what), -2);
            SOME.keeps("what " + what, x -> x.ofVine(0, what), -2);
            BARE.keeps("unknown, what " + what, x -> x.ofVine(0, what), -1);
        }
        int[][] told = {{0, 0, 1}, {1, 14, 2}, {2, 26, 0}};
        for (int v = 0; v < 3; v++) {
            int of = v;
            FULL.keeps("kind", x -> x.ofVine(of, 0), told[v][0]);
            FULL.keeps("cell", x -> x.ofVine(of, 1), told[v][1]);
            FULL.keeps("heading at first", x -> x.ofVine(of, 2), told[v][2]);
        }
    }

    // ---- promise 7: pull

    private static void pullEdges() {
        for (int k : Scene.beyond(0, 3)) {
            FULL.keeps("pull " + k, x -> x.pull(k), -2);
        }
        for (int k : Scene.beyond(0, 1)) {
            SOME.keeps("pull " + k, x -> x.pull(k), -2);
        }
        for (int k : Scene.beyond(0, 0)) {
            BARE.keeps("pull " + k, x -> x.pull(k), -2);
        }
        FULL.keeps("pull none", x -> x.pull(0), 3);
        SOME.keeps("pull none", x -> x.pull(0), 1);
        BARE.keeps("pull none", x -> x.pull(0), 0);
        for (int k = 1; k <= 3; k++) {
            VineGarden x = FULL.make();
            due("pull " + k, x.pull(k), 3 - k);
            due("left", x.many(2), 3 - k);
            due("the last ones are gone", x.ofVine(3 - k, 1), -1);
            due("cells stay", x.many(0), 30);
            due("frosts stay", x.frost(79, true), 0);
            due("next number", x.vine(0, 5, 0), 3 - k);
        }
    }

    private static void pullOfReadings() {
        // The full scene reads vines 0 1 2 0 1 2 0 1, in this order.
        int[] left = {8, 6, 3, 0};
        for (int k = 0; k <= 3; k++) {
            VineGarden x = FULL.make();
            x.pull(k);
            due("readings left, of those pulled " + k, x.many(3), left[k]);
            if (k < 3) {
                due("next number", x.reading(0, 0, 0), left[k] == 8 ? -4 : left[k]);
            }
        }
        VineGarden y = Check.sown("g13;..x");
        y.vine(0, 0, 1);
        y.vine(0, 2, 3);
        y.reading(1, 0, 2);
        y.reading(0, 0, 1);
        y.reading(1, 1, 2);
        y.reading(0, 1, 0);
        y.pull(1);
        due("two are left", y.many(3), 2);
        due("of which the later one is not so", y.fits(0), 0);
        due("it is the last one still", y.back(1), 1);
        due("the earlier one is so, by all but heading 3", y.fits(0), 0x777);
    }

    // ---- promise 8: frost

    private static void frostRefusals() {
        for (int day : Scene.beyond(0, 79)) {
            for (boolean is : new boolean[] {true, false}) {
                FULL.keeps("frost " + day + " " + is, x -> x.frost(day, is), -1);
                BARE.keeps("unknown ahead of state: " + day, x -> x.frost(day, is), -1);
            }
        }
        for (int day : new int[] {0, 40, 79}) {
            for (boolean is : new boolean[] {true, false}) {
                BARE.keeps("no garden, " + day, x -> x.frost(day, is), -3);
            }
        }
        FULL.keeps("frost so already", x -> x.frost(79, true), 0);
        FULL.keeps("frost so already", x -> x.frost(0, true), 0);
        FULL.keeps("none already", x -> x.frost(78, false), 0);
        FULL.keeps("none already", x -> x.frost(1, false), 0);
    }

    private static void frostDays() {
        VineGarden x = Check.sown("g12;..");
        for (int day = 0; day < 80; day++) {
            due("none on " + day, x.frost(day, false), 0);
            due("frost on " + day, x.frost(day, true), 1);
            due("again on " + day, x.frost(day, true), 0);
        }
        for (int day = 0; day < 80; day++) {
            due("none again on " + day, x.frost(day, false), 1);
            due("so already on " + day, x.frost(day, false), 0);
        }
    }
}
