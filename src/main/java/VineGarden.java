import java.util.ArrayList;
import java.util.Arrays;

/**
 * A garden of hedges, told in a text, in which up to three vines feel their way
 * out, day by day. ../shared/DOC.md says what each call answers.
 */
public final class VineGarden {
    public static final int UNKNOWN = -1, OUTSIDE = -2, STATE = -3, FULL = -4, NONE = -9;
    public static final long LOST = Long.MIN_VALUE;

    private static final int NO_FAULT = 0, NULL = 1, CAST = 2, INDEX = 3, SIZE = 4;
    private static final int OPEN = 0, HEDGE = 1, PROP = 2, OUT = 3, SIGNS = 4;
    private static final int VINE = 0, CLIMBER = 1, RAMBLER = 2, KINDS = 3;
    private static final int UP = 0, RIGHT = 1, DOWN = 2, DIRECTIONS = 4;
    private static final int LANES = 3, BYTES = 0, SHORTS = 1;
    private static final int MOST_HIGH = 5, LEAST_WIDE = 2, MOST_WIDE = 6, MOST_CELLS = 30;
    private static final int MOST_VINES = 3, MOST_READINGS = 8, MOST_ODDS_DAYS = 8;
    private static final int SHEETS = 4, MOST_NUMBERS = 50;
    private static final int DAYS = 80, LAST_DAY = DAYS - 1;
    private static final int MAZES = 128, MAZE_SIDE = 3;
    /** A move that a vine never makes. */
    private static final int NEVER = -1;
    /** A code that stands nowhere in a text. */
    private static final int NO_CODE = -1;
    private static final int BAD_TEXT = -100;

    private final Bed bed;
    private final Bed maze;
    private final ArrayList<Reading> readings;
    private final Sheet[] sheets;
    private int trace;
    private int fault;

    public VineGarden() {
        bed = new Bed();
        maze = new Bed();
        readings = new ArrayList<>();
        sheets = new Sheet[SHEETS];
        for (int k = 0; k < sheets.length; k++) {
            sheets[k] = new Sheet();
        }
    }

    // ---- 1 the garden

    public int garden(int sheet, int lane, int i, int n) {
        fault = NO_FAULT;
        Sheet text = sheetAt(sheet);
        if (text == null) {
            return UNKNOWN;
        }
        if (!isBelow(lane, LANES)) {
            return OUTSIDE;
        }
        int found = text.faultOfTaking(lane);
        if (found == NO_FAULT && n < 0) {
            found = SIZE;
        }
        if (found == NO_FAULT && !text.holds(i, n)) {
            found = INDEX;
        }
        if (found != NO_FAULT) {
            return failed(found);
        }
        int wrong = firstWrongCode(text, i, n);
        if (wrong != NONE) {
            return BAD_TEXT - wrong;
        }
        layOut(text, i);
        return bed.plan.cells;
    }

    public int sign(int c) {
        return bed.plan.hasCell(c) ? bed.plan.signOf(c) : UNKNOWN;
    }

    public int set(int c, int sign) {
        if (!bed.plan.hasCell(c)) {
            return UNKNOWN;
        }
        if (!isBelow(sign, SIGNS)) {
            return OUTSIDE;
        }
        if (sign == HEDGE && bed.isPlanted(c)) {
            return STATE;
        }
        int was = bed.plan.signOf(c);
        bed.plan.mark(c, sign);
        return was;
    }

    public int vine(int kind, int c, int heading) {
        if (!bed.plan.hasCell(c)) {
            return UNKNOWN;
        }
        if (!isBelow(kind, KINDS) || !isBelow(heading, DIRECTIONS)) {
            return OUTSIDE;
        }
        if (bed.plan.signOf(c) == HEDGE || bed.isPlanted(c)) {
            return STATE;
        }
        int number = bed.vines.size();
        if (number >= MOST_VINES) {
            return FULL;
        }
        bed.vines.add(new Vine(kind, c, heading));
        return number;
    }

    public int ofVine(int v, int what) {
        Vine vine = bed.vineAt(v);
        if (vine == null) {
            return UNKNOWN;
        }
        switch (what) {
            case 0:
                return vine.kind;
            case 1:
                return vine.planted;
            case 2:
                return vine.headed;
            default:
                return OUTSIDE;
        }
    }

    public int pull(int k) {
        int left = bed.vines.size() - k;
        if (k < 0 || left < 0) {
            return OUTSIDE;
        }
        for (int v = bed.vines.size() - 1; v >= left; v--) {
            bed.vines.remove(v);
        }
        // From the last one on, so that what moves up was looked at already.
        for (int r = readings.size() - 1; r >= 0; r--) {
            if (readings.get(r).vine >= left) {
                readings.remove(r);
            }
        }
        return left;
    }

    public int frost(int day, boolean is) {
        if (!isBelow(day, DAYS)) {
            return UNKNOWN;
        }
        if (bed.plan.isMissing()) {
            return STATE;
        }
        return bed.frosts.mark(day, is) ? 1 : 0;
    }

    // ---- 2 days

    public int tip(int v, int day) {
        Vine vine = bed.vineAt(v);
        if (vine == null || !isBelow(day, DAYS)) {
            return UNKNOWN;
        }
        bed.growTo(day);
        return vine.tip;
    }

    public long leaves(int v, int day) {
        Vine vine = bed.vineAt(v);
        if (vine == null || !isBelow(day, DAYS)) {
            return LOST;
        }
        bed.growTo(day);
        return vine.leaves;
    }

    public int doubts(int v, int day) {
        Vine vine = bed.vineAt(v);
        if (vine == null || !isBelow(day, DAYS)) {
            return UNKNOWN;
        }
        bed.growTo(day);
        return vine.doubts;
    }

    public int ends(int v, int what) {
        Vine vine = bed.vineAt(v);
        if (vine == null) {
            return UNKNOWN;
        }
        if (!isBelow(what, 2)) {
            return OUTSIDE;
        }
        bed.growTo(LAST_DAY);
        return bed.frosts.dayOfMove(what == 0 ? vine.outMove : vine.deadMove);
    }

    // ---- 3 ways, laws, props

    public int shortest(int v) {
        Vine vine = bed.vineAt(v);
        return vine == null ? UNKNOWN : bed.plan.stepsOut(vine.planted);
    }

    public int law(int v, int what) {
        Vine vine = bed.vineAt(v);
        if (vine == null) {
            return UNKNOWN;
        }
        if (!isBelow(what, 2)) {
            return OUTSIDE;
        }
        int own = vine.kind;
        int best = VINE;
        int bestDay = NONE;
        for (int kind = 0; kind < KINDS; kind++) {
            vine.kind = kind;
            int day = bed.outDay(vine);
            if (isEarlier(day, bestDay)) {
                best = kind;
                bestDay = day;
            }
        }
        vine.kind = own;
        return what == 0 ? best : bestDay;
    }

    public int prop(int v, int what) {
        return bestChange(v, what, PROP);
    }

    public int closed(int v, int what) {
        return bestChange(v, what, HEDGE);
    }

    public int first() {
        if (bed.plan.isMissing()) {
            return STATE;
        }
        bed.growTo(LAST_DAY);
        int best = NONE;
        int bestMove = DAYS;
        for (int v = 0; v < bed.vines.size(); v++) {
            int move = bed.vines.get(v).outMove;
            if (move != NEVER && move < bestMove) {
                best = v;
                bestMove = move;
            }
        }
        return best;
    }

    // ---- 4 mazes, odds, what was seen

    public int mazes(int kind, int n) {
        if (!isBelow(kind, KINDS) || !isBelow(n, DAYS)) {
            return OUTSIDE;
        }
        Vine vine = new Vine(kind, 0, RIGHT);
        maze.vines.clear();
        maze.vines.add(vine);
        maze.plan.clear(MAZE_SIDE, MAZE_SIDE);
        maze.plan.mark(0, OPEN);
        maze.plan.mark(maze.plan.cells - 1, OUT);
        int solved = 0;
        for (int hedges = 0; hedges < MAZES; hedges++) {
            for (int c = 1; c < maze.plan.cells - 1; c++) {
                maze.plan.mark(c, ((hedges >> (c - 1)) & 1) == 1 ? HEDGE : OPEN);
            }
            int move = maze.outMove(vine);
            if (move != NEVER && move <= n) {
                solved++;
            }
        }
        return solved;
    }

    public long odds(int v, int day, int n, int which) {
        Vine vine = bed.vineAt(v);
        if (vine == null || !isBelow(day, DAYS)) {
            return LOST;
        }
        if (!isBelow(n, MOST_ODDS_DAYS + 1) || !isBelow(which, 2)) {
            return LOST;
        }
        int lower = 1 << n;
        int upper = rowsByWhichOut(vine, day, n);
        // The lower number is two to the n: halves alone lead to least terms.
        for (int k = 0; k < n && (upper & 1) == 0; k++) {
            upper >>= 1;
            lower >>= 1;
        }
        return which == 0 ? upper : lower;
    }

    public int reading(int v, int day, int c) {
        if (bed.vineAt(v) == null || !isBelow(day, DAYS) || !bed.plan.hasCell(c)) {
            return UNKNOWN;
        }
        int number = readings.size();
        if (number >= MOST_READINGS) {
            return FULL;
        }
        readings.add(new Reading(v, day, c));
        return number;
    }

    public int back(int k) {
        int left = readings.size() - k;
        if (k < 0 || left < 0) {
            return OUTSIDE;
        }
        for (int r = readings.size() - 1; r >= left; r--) {
            readings.remove(r);
        }
        return left;
    }

    public int fits(int v) {
        Vine vine = bed.vineAt(v);
        if (vine == null) {
            return UNKNOWN;
        }
        int ownKind = vine.kind;
        int ownHeading = vine.headed;
        int fitting = 0;
        for (int kind = 0; kind < KINDS; kind++) {
            for (int heading = 0; heading < DIRECTIONS; heading++) {
                vine.kind = kind;
                vine.headed = heading;
                if (isAsRead(v, vine)) {
                    fitting |= 1 << (DIRECTIONS * kind + heading);
                }
            }
        }
        vine.kind = ownKind;
        vine.headed = ownHeading;
        return fitting;
    }

    // ---- 5 sheets, parts

    public int sheet(int k, int lane, int n) {
        fault = NO_FAULT;
        Sheet sheet = sheetAt(k);
        if (sheet == null) {
            return UNKNOWN;
        }
        if (!isBelow(lane, LANES) || n > MOST_NUMBERS) {
            return OUTSIDE;
        }
        if (n < 0) {
            return failed(SIZE);
        }
        sheet.renew(lane, n);
        return 1;
    }

    public int lose(int k) {
        Sheet sheet = sheetAt(k);
        if (sheet == null) {
            return UNKNOWN;
        }
        boolean had = !sheet.isNothing();
        sheet.drop();
        return had ? 1 : 0;
    }

    public int put(int k, int i, int v) {
        fault = NO_FAULT;
        Sheet sheet = sheetAt(k);
        if (sheet == null) {
            return UNKNOWN;
        }
        if (sheet.isNothing()) {
            return failed(NULL);
        }
        if (!sheet.hasPlace(i)) {
            return failed(INDEX);
        }
        sheet.write(i, v);
        return 1;
    }

    public long cell(int k, int i, int lane) {
        fault = NO_FAULT;
        Sheet sheet = sheetAt(k);
        if (sheet == null || !isBelow(lane, LANES)) {
            return LOST;
        }
        fault = sheet.faultOfTaking(lane);
        if (fault == NO_FAULT && !sheet.hasPlace(i)) {
            fault = INDEX;
        }
        return fault == NO_FAULT ? sheet.read(i) : LOST;
    }

    public int copy(int k, int i, int other, int j, int n) {
        fault = NO_FAULT;
        Sheet from = sheetAt(k);
        Sheet to = sheetAt(other);
        if (from == null || to == null) {
            return UNKNOWN;
        }
        if (from.isNothing() || to.isNothing()) {
            return failed(NULL);
        }
        if (from.lane != to.lane) {
            return failed(CAST);
        }
        if (!from.holds(i, n) || !to.holds(j, n)) {
            return failed(INDEX);
        }
        System.arraycopy(from.row, i, to.row, j, n);
        return n;
    }

    public int tell(int v) {
        Vine vine = bed.vineAt(v);
        if (vine == null) {
            return UNKNOWN;
        }
        switch (vine.kind) {
            case RAMBLER:
                return tellRambler(vine);
            case CLIMBER:
                return tellClimber(vine);
            default:
                return tellVine(vine);
        }
    }

    public int tie(int v) {
        Vine vine = bed.vineAt(v);
        if (vine == null) {
            return UNKNOWN;
        }
        return vine.kind == RAMBLER ? tieRambler() : tieLent(v);
    }

    public int as(int v, int kind) {
        fault = NO_FAULT;
        Vine vine = bed.vineAt(v);
        if (vine == null) {
            return UNKNOWN;
        }
        if (!isBelow(kind, KINDS)) {
            return OUTSIDE;
        }
        // Each kind is one of the kinds with a lower number, too.
        return vine.kind < kind ? failed(CAST) : 1;
    }

    public int trace() {
        return trace;
    }

    public int fault() {
        return fault;
    }

    public int many(int what) {
        switch (what) {
            case 0:
                return bed.plan.cells;
            case 1:
                return bed.plan.wide;
            case 2:
                return bed.vines.size();
            case 3:
                return readings.size();
            default:
                return OUTSIDE;
        }
    }

    // ---- what the calls share

    private static boolean isBelow(int number, int bound) {
        return number >= 0 && number < bound;
    }

    /** Whether one day, or none, is earlier than another day, or none. */
    private static boolean isEarlier(int day, int other) {
        return day != NONE && (other == NONE || day < other);
    }

    private int failed(int kindOfFault) {
        fault = kindOfFault;
        return -10 - kindOfFault;
    }

    private Sheet sheetAt(int k) {
        return k >= 0 && k < sheets.length ? sheets[k] : null;
    }

    // ---- the text

    private static int codeAt(Sheet text, int from, int n, int place) {
        return place < n ? text.read(from + place) : NO_CODE;
    }

    private static int signOfCode(int code) {
        switch (code) {
            case '.':
                return OPEN;
            case '#':
                return HEDGE;
            case 'p':
                return PROP;
            case 'x':
                return OUT;
            default:
                return NONE;
        }
    }

    /** The place of the first fault, or NONE. A text too short has NO_CODE at its end. */
    private static int firstWrongCode(Sheet text, int from, int n) {
        if (codeAt(text, from, n, 0) != 'g') {
            return 0;
        }
        int high = codeAt(text, from, n, 1) - '0';
        if (high < 1 || high > MOST_HIGH) {
            return 1;
        }
        int wide = codeAt(text, from, n, 2) - '0';
        if (wide < LEAST_WIDE || wide > MOST_WIDE) {
            return 2;
        }
        int place = 3;
        for (int row = 0; row < high; row++) {
            if (codeAt(text, from, n, place) != ';') {
                return place;
            }
            place++;
            for (int column = 0; column < wide; column++) {
                if (signOfCode(codeAt(text, from, n, place)) == NONE) {
                    return place;
                }
                place++;
            }
        }
        return place < n ? place : NONE;
    }

    /** Makes all anew by a text without a fault. */
    private void layOut(Sheet text, int from) {
        int high = text.read(from + 1) - '0';
        int wide = text.read(from + 2) - '0';
        bed.plan.clear(high, wide);
        bed.vines.clear();
        bed.frosts.clear();
        readings.clear();
        int place = from + 3;
        int c = 0;
        for (int row = 0; row < high; row++) {
            place++;
            for (int column = 0; column < wide; column++) {
                bed.plan.mark(c, signOfCode(text.read(place)));
                place++;
                c++;
            }
        }
    }

    // ---- trials

    /** PROP or CLOSED: the best cell that becomes a sign, or the day by it. */
    private int bestChange(int v, int what, int sign) {
        Vine vine = bed.vineAt(v);
        if (vine == null) {
            return UNKNOWN;
        }
        if (!isBelow(what, 2)) {
            return OUTSIDE;
        }
        int best = NONE;
        int bestDay = bed.outDay(vine);
        for (int c = 0; c < bed.plan.cells; c++) {
            int was = bed.plan.signOf(c);
            boolean may = sign == PROP ? was == OPEN : was != HEDGE;
            if (may && !bed.isPlanted(c)) {
                bed.plan.mark(c, sign);
                int day = bed.outDay(vine);
                bed.plan.mark(c, was);
                if (isEarlier(day, bestDay)) {
                    best = c;
                    bestDay = day;
                }
            }
        }
        return what == 0 ? best : bestDay;
    }

    /** By how many rows of frosts on the first n days a vine is out by a day. */
    private int rowsByWhichOut(Vine vine, int day, int n) {
        int move = bed.outMove(vine);
        if (move == NEVER) {
            return 0;
        }
        int daysThatCount = (1 << Math.min(n, day + 1)) - 1;
        int laterMoves = bed.frosts.movesOn(n, day);
        int rows = 0;
        for (int mild = 0; mild < 1 << n; mild++) {
            if (Integer.bitCount(mild & daysThatCount) + laterMoves > move) {
                rows++;
            }
        }
        return rows;
    }

    /** Whether all readings of a vine are so, by its kind and heading of now. */
    private boolean isAsRead(int v, Vine vine) {
        bed.restart();
        int move = 0;
        for (int day = 0; day < DAYS; day++) {
            if (!bed.frosts.isOn(day)) {
                bed.grow(move);
                move++;
            }
            for (int r = 0; r < readings.size(); r++) {
                Reading reading = readings.get(r);
                if (reading.vine == v && reading.day == day && reading.cell != vine.tip) {
                    return false;
                }
            }
        }
        return true;
    }

    // ---- telling

    private void leave(int number) {
        trace = 31 * trace + number;
    }

    private int tellVine(Vine vine) {
        leave(1);
        return vine.planted;
    }

    private int tellClimber(Vine vine) {
        leave(2);
        return tellVine(vine) + 100;
    }

    private int tellRambler(Vine vine) {
        leave(3);
        int climbers = tellClimber(vine);
        return climbers + tellVine(vine);
    }

    private int tieLent(int v) {
        leave(4);
        return v;
    }

    private int tieRambler() {
        leave(5);
        return 30;
    }

    /** The cells and their signs. What is no cell counts as a hedge. */
    private static final class Plan {
        private final int[] signs = new int[MOST_CELLS];
        private int wide;
        private int cells;

        boolean isMissing() {
            return cells == 0;
        }

        boolean hasCell(int c) {
            return c >= 0 && c < cells;
        }

        int signOf(int c) {
            return c >= 0 && c < cells && c < signs.length ? signs[c] : HEDGE;
        }

        void mark(int c, int sign) {
            if (c >= 0 && c < signs.length) {
                signs[c] = sign;
            }
        }

        void clear(int newHigh, int newWide) {
            wide = newWide;
            cells = newHigh * newWide;
            Arrays.fill(signs, HEDGE);
        }

        /** The place beside a cell: it may be no cell. */
        int beside(int c, int direction) {
            if (wide <= 0) {
                return NONE;
            }
            int column = c % wide;
            switch (direction) {
                case UP:
                    return c - wide;
                case RIGHT:
                    return column + 1 < wide ? c + 1 : NONE;
                case DOWN:
                    return c + wide;
                default:
                    return column > 0 ? c - 1 : NONE;
            }
        }

        /** The fewest steps from a cell to another one that is a way out, or NONE. */
        int stepsOut(int start) {
            long reached = 1L << start;
            for (int steps = 1; steps < cells; steps++) {
                long next = spread(reached);
                for (int c = 0; c < cells; c++) {
                    if (c != start && ((next >> c) & 1) == 1 && signOf(c) == OUT) {
                        return steps;
                    }
                }
                reached = next;
            }
            return NONE;
        }

        private long spread(long reached) {
            long next = reached;
            for (int c = 0; c < cells; c++) {
                for (int d = 0; d < DIRECTIONS && ((reached >> c) & 1) == 1; d++) {
                    int other = beside(c, d);
                    if (signOf(other) != HEDGE) {
                        next |= 1L << other;
                    }
                }
            }
            return next;
        }
    }

    /** On which days there is a frost. A move is made on each other day, by all vines. */
    private static final class Frosts {
        private final boolean[] on = new boolean[DAYS];

        boolean isOn(int day) {
            return day >= 0 && day < on.length && on[day];
        }

        /** Whether it was otherwise. */
        boolean mark(int day, boolean is) {
            if (day < 0 || day >= on.length || on[day] == is) {
                return false;
            }
            on[day] = is;
            return true;
        }

        void clear() {
            for (int day = 0; day < on.length; day++) {
                on[day] = false;
            }
        }

        /** How many moves are made from one day to another one. */
        int movesOn(int from, int to) {
            int moves = 0;
            for (int day = from; day <= to && day < DAYS; day++) {
                if (!isOn(day)) {
                    moves++;
                }
            }
            return moves;
        }

        /** The day of a move (from 0 on), or NONE. */
        int dayOfMove(int move) {
            int ahead = move;
            for (int day = 0; day < DAYS && ahead >= 0; day++) {
                if (!isOn(day)) {
                    if (ahead == 0) {
                        return day;
                    }
                    ahead--;
                }
            }
            return NONE;
        }
    }

    /** A vine: how it was planted, and how far it is after some moves. */
    private static final class Vine {
        private final int planted;
        private int kind;
        private int headed;
        private int tip;
        private int heading;
        private int doubts;
        private int outMove;
        private int deadMove;
        private long leaves;
        /** Two bits for each cell: the direction in which it came to it. */
        private long came;

        Vine(int kind, int planted, int headed) {
            this.kind = kind;
            this.planted = planted;
            this.headed = headed;
        }

        void restart() {
            tip = planted;
            heading = headed;
            doubts = 0;
            outMove = NEVER;
            deadMove = NEVER;
            leaves = 1L << planted;
            came = 0;
        }

        boolean isGrowing() {
            return outMove == NEVER && deadMove == NEVER;
        }

        void goOn(int direction, int c) {
            tip = c;
            heading = direction;
            leaves |= 1L << c;
            came |= (long) direction << (2 * c);
        }

        int wayBack() {
            return ((int) (came >> (2 * tip)) + 2) & 3;
        }

        void doubleBack(int direction, int c) {
            tip = c;
            heading = direction;
            doubts++;
        }
    }

    /** A plan with vines in it, which grow by moves: frosts only tell on which day each is made. */
    private static final class Bed {
        private final Plan plan = new Plan();
        private final Frosts frosts = new Frosts();
        private final ArrayList<Vine> vines = new ArrayList<>();
        /** The cells with a leaf of any vine. */
        private long leaves;

        Vine vineAt(int v) {
            return v >= 0 && v < vines.size() ? vines.get(v) : null;
        }

        boolean isPlanted(int c) {
            for (int v = 0; v < vines.size(); v++) {
                if (vines.get(v).planted == c) {
                    return true;
                }
            }
            return false;
        }

        void growTo(int day) {
            int moves = frosts.movesOn(0, day);
            restart();
            for (int move = 0; move < moves; move++) {
                grow(move);
            }
        }

        /** The move on which a vine is out, as if there were no frost; or NEVER. */
        int outMove(Vine vine) {
            restart();
            for (int move = 0; move < DAYS && vine.isGrowing(); move++) {
                grow(move);
            }
            return vine.outMove;
        }

        int outDay(Vine vine) {
            return frosts.dayOfMove(outMove(vine));
        }

        void restart() {
            leaves = 0;
            for (int v = 0; v < vines.size(); v++) {
                Vine vine = vines.get(v);
                vine.restart();
                leaves |= vine.leaves;
            }
        }

        void grow(int move) {
            for (int v = 0; v < vines.size(); v++) {
                Vine vine = vines.get(v);
                if (vine.isGrowing()) {
                    take(vine, freeWay(vine), move);
                }
            }
        }

        /** The direction to the first free cell by the law of a vine's kind, or NONE. */
        private int freeWay(Vine vine) {
            int without = NONE;
            for (int k = -1; k <= 1; k++) {
                int turn = vine.kind == RAMBLER ? -k : k;
                int direction = (vine.heading + turn) & 3;
                int c = plan.beside(vine.tip, direction);
                int sign = plan.signOf(c);
                if (sign != HEDGE && ((leaves >> c) & 1) == 0) {
                    if (vine.kind == VINE || sign == PROP) {
                        return direction;
                    }
                    without = without == NONE ? direction : without;
                }
            }
            return without;
        }

        private void take(Vine vine, int way, int move) {
            if (way != NONE) {
                int c = plan.beside(vine.tip, way);
                vine.goOn(way, c);
                leaves |= vine.leaves;
                if (plan.signOf(c) == OUT) {
                    vine.outMove = move;
                }
            } else if (vine.tip == vine.planted) {
                vine.deadMove = move;
            } else {
                int back = vine.wayBack();
                vine.doubleBack(back, plan.beside(vine.tip, back));
            }
        }
    }

    /** At the end of a day a vine's tip was seen in a cell. */
    private static final class Reading {
        private final int vine;
        private final int day;
        private final int cell;

        Reading(int vine, int day, int cell) {
            this.vine = vine;
            this.day = day;
            this.cell = cell;
        }
    }

    /** Nothing, or a row of numbers of a lane. */
    private static final class Sheet {
        private final int[] row = new int[MOST_NUMBERS];
        /** NONE: it has nothing. */
        private int lane = NONE;
        private int length;

        boolean isNothing() {
            return lane == NONE;
        }

        void drop() {
            lane = NONE;
            length = 0;
        }

        void renew(int newLane, int newLength) {
            lane = newLane;
            length = Math.min(newLength, row.length);
            Arrays.fill(row, 0);
        }

        /** The fault of taking what it has as a row of a lane. */
        int faultOfTaking(int asLane) {
            if (isNothing()) {
                return NULL;
            }
            return lane == asLane ? NO_FAULT : CAST;
        }

        boolean hasPlace(int i) {
            return i >= 0 && i < length;
        }

        /** Whether all n cells from i on are there. */
        boolean holds(int i, int n) {
            return i >= 0 && i <= length && n >= 0 && n <= length - i;
        }

        int read(int i) {
            return hasPlace(i) && i < row.length ? row[i] : 0;
        }

        void write(int i, int v) {
            if (hasPlace(i) && i < row.length) {
                row[i] = lane == BYTES ? (byte) v : lane == SHORTS ? (short) v : v;
            }
        }
    }
}
