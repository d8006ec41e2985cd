/** Counts wrong answers, and sows gardens by their texts. */
final class Check {
    private int wrong = 0;
    private int asked = 0;

    void due(String call, long got, long want) {
        asked++;
        if (got != want) {
            wrong++;
            System.out.println(call + " answered " + got + ", due is " + want);
        }
    }

    void holds(String what, boolean is) {
        due(what, is ? 1 : 0, 1);
    }

    /** Writes a text into a sheet of a lane, from its cell 0 on. */
    static void write(VineGarden x, int sheet, int lane, String text) {
        x.sheet(sheet, lane, text.length());
        for (int i = 0; i < text.length(); i++) {
            x.put(sheet, i, text.charAt(i));
        }
    }

    static int sow(VineGarden x, String text) {
        write(x, 0, 0, text);
        return x.garden(0, 0, 0, text.length());
    }

    static VineGarden sown(String text) {
        VineGarden x = new VineGarden();
        int cells = sow(x, text);
        if (cells <= 0) {
            throw new IllegalStateException("a test's own garden is refused: " + text + ": " + cells);
        }
        return x;
    }

    void end() {
        System.out.println(asked + " answers, " + wrong + " wrong");
        if (wrong != 0) {
            System.exit(1);
        }
    }
}
