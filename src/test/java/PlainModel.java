import java.util.ArrayDeque;
import java.util.ArrayList;
import java.util.HashMap;
import java.util.List;
import java.util.Map;
import java.util.TreeSet;

/**
 * The document's words in their plainest form, written apart from the class: days are
 * gone through one by one, every row of frosts is tried, every text is tried anew.
 */
final class PlainModel {
    static final long LOST = Long.MIN_VALUE;
    private static final int[] ROW_STEP = {-1, 0, 1, 0};
    private static final int[] COLUMN_STEP = {0, 1, 0, -1};

    /** What one vine is told to be. */
    record Planted(int kind, int cell, int heading) { }

    record Seen(int vine, int day, int cell) { }

    /** Where the vines are: of each the path by which it came, and all that it has. */
    static final class Growth {
        final List<ArrayDeque<Integer>> paths = new ArrayList<>();
        final List<TreeSet<Integer>> leaves = new ArrayList<>();
        int[] headings;
        int[] doubts;
        int[] out;
        int[] dead;
        /** By day, then by vine. */
        final List<int[]> tips = new ArrayList<>();
        final List<int[]> doubtsBy = new ArrayList<>();
        final List<long[]> leavesBy = new ArrayList<>();
    }

    String[] rows = new String[0];
    List<Planted> vines = new ArrayList<>();
    TreeSet<Integer> frosts = new TreeSet<>();
    List<Seen> seen = new ArrayList<>();
    long[][] sheets = new long[4][];
    int[] lanes = new int[4];
    int trace;
    int fault;
    private static final Map<Integer, int[]> MAZE_DAYS = new HashMap<>();

    private static boolean in(long number, long from, long to) {
        return from <= number && number <= to;
    }

    private int wide() {
        return rows.length == 0 ? 0 : rows[0].length();
    }

    private int cells() {
        return rows.length * wide();
    }

    private static char at(String[] rows, int c) {
        return rows[c / rows[0].length()].charAt(c % rows[0].length());
    }

    private static String[] with(String[] rows, int c, char sign) {
        String[] other = rows.clone();
        int wide = rows[0].length();
        StringBuilder row = new StringBuilder(other[c / wide]);
        row.setCharAt(c % wide, sign);
        other[c / wide] = row.toString();
        return other;
    }

    private static int next(String[] rows, int c, int direction) {
        int wide = rows[0].length();
        int row = c / wide + ROW_STEP[direction];
        int column = c % wide + COLUMN_STEP[direction];
        boolean is = in(row, 0, rows.length - 1) && in(column, 0, wide - 1);
        return is && rows[row].charAt(column) != '#' ? row * wide + column : -1;
    }

    // ---- growing

    private static Growth grow(String[] rows, List<Planted> vines, TreeSet<Integer> frosts) {
        Growth g = new Growth();
        int n = vines.size();
        g.headings = new int[n];
        g.doubts = new int[n];
        g.out = new int[n];
        g.dead = new int[n];
        for (int v = 0; v < n; v++) {
            g.paths.add(new ArrayDeque<>(List.of(vines.get(v).cell())));
            g.leaves.add(new TreeSet<>(List.of(vines.get(v).cell())));
            g.headings[v] = vines.get(v).heading();
            g.out[v] = -9;
            g.dead[v] = -9;
        }
        for (int day = 0; day < 80; day++) {
            for (int v = 0; v < n && !frosts.contains(day); v++) {
                if (g.out[v] == -9 && g.dead[v] == -9) {
                    feel(rows, vines.get(v).kind(), g, v, day);
                }
            }
            int[] tips = new int[n];
            long[] leaves = new long[n];
            for (int v = 0; v < n; v++) {
                tips[v] = g.paths.get(v).peekLast();
                for (int c : g.leaves.get(v)) {
                    leaves[v] += 1L << c;
                }
            }
            g.tips.add(tips);
            g.doubtsBy.add(g.doubts.clone());
            g.leavesBy.add(leaves);
        }
        return g;
    }

    private static List<Integer> order(int kind, int heading) {
        int left = (heading + 3) % 4;
        int right = (heading + 1) % 4;
        return kind == 2 ? List.of(right, heading, left) : List.of(left, heading, right);
    }

    private static void feel(String[] rows, int kind, Growth g, int v, int day) {
        ArrayDeque<Integer> path = g.paths.get(v);
        List<Integer> ways = new ArrayList<>();
        List<Integer> others = new ArrayList<>();
        for (int d : order(kind, g.headings[v])) {
            int c = next(rows, path.peekLast(), d);
            boolean free = c >= 0;
            for (TreeSet<Integer> leaves : g.leaves) {
                free = free && !leaves.contains(c);
            }
            if (free) {
                (kind == 0 || at(rows, c) == 'p' ? ways : others).add(d);
            }
        }
        ways.addAll(others);
        if (!ways.isEmpty()) {
            int c = next(rows, path.peekLast(), ways.get(0));
            g.headings[v] = ways.get(0);
            path.addLast(c);
            g.leaves.get(v).add(c);
            if (at(rows, c) == 'x') {
                g.out[v] = day;
            }
        } else if (path.size() == 1) {
            g.dead[v] = day;
        } else {
            int from = path.removeLast();
            for (int d = 0; d < 4; d++) {
                if (next(rows, from, d) == path.peekLast()) {
                    g.headings[v] = d;
                }
            }
            g.doubts[v]++;
        }
    }

    private Growth now() {
        return grow(rows, vines, frosts);
    }

    private List<Planted> instead(int v, Planted other) {
        List<Planted> list = new ArrayList<>(vines);
        list.set(v, other);
        return list;
    }

    private static int rank(int day) {
        return day == -9 ? 1000 : day;
    }

    // ---- 1 the garden

    private boolean vineIs(int v) {
        return in(v, 0, vines.size() - 1);
    }

    private boolean plantedIn(int c) {
        return vines.stream().anyMatch(vine -> vine.cell() == c);
    }

    private int failed(int f) {
        fault = f;
        return -10 - f;
    }

    private static boolean isText(List<Integer> codes, int upTo) {
        // Whether some text goes on with these codes.
        if (upTo > 0 && codes.get(0) != 'g') {
            return false;
        }
        if (upTo > 1 && !in(codes.get(1), '1', '5')) {
            return false;
        }
        if (upTo > 2 && !in(codes.get(2), '2', '6')) {
            return false;
        }
        for (int p = 3; p < upTo; p++) {
            int high = codes.get(1) - '0';
            int wide = codes.get(2) - '0';
            int row = (p - 3) / (wide + 1);
            int code = codes.get(p);
            boolean head = (p - 3) % (wide + 1) == 0;
            if (row >= high || (head ? code != ';' : code != '.' && code != '#' && code != 'p' && code != 'x')) {
                return false;
            }
        }
        return true;
    }

    int garden(int sheet, int lane, int i, int n) {
        fault = 0;
        if (!in(sheet, 0, 3)) {
            return -1;
        }
        if (!in(lane, 0, 2)) {
            return -2;
        }
        long[] row = sheets[sheet];
        if (row != null && lanes[sheet] != lane) {
            return failed(2);
        }
        if (row == null) {
            return failed(1);
        }
        if (n < 0) {
            return failed(4);
        }
        if (!in(i, 0, row.length) || (long) i + n > row.length) {
            return failed(3);
        }
        List<Integer> codes = new ArrayList<>();
        for (int k = 0; k < n; k++) {
            codes.add((int) row[i + k]);
        }
        for (int k = 1; k <= n; k++) {
            if (!isText(codes, k)) {
                return -100 - (k - 1);
            }
        }
        int high = n < 3 ? 1 : codes.get(1) - '0';
        int wide = n < 3 ? 1 : codes.get(2) - '0';
        if (n < 3 + high * (wide + 1)) {
            return -100 - n;
        }
        rows = new String[high];
        for (int r = 0; r < high; r++) {
            StringBuilder signs = new StringBuilder();
            for (int k = 0; k < wide; k++) {
                signs.append((char) (int) codes.get(3 + r * (wide + 1) + 1 + k));
            }
            rows[r] = signs.toString();
        }
        vines.clear();
        frosts.clear();
        seen.clear();
        return cells();
    }

    int sign(int c) {
        return in(c, 0, cells() - 1) ? ".#px".indexOf(at(rows, c)) : -1;
    }

    int set(int c, int sign) {
        if (!in(c, 0, cells() - 1)) {
            return -1;
        }
        if (!in(sign, 0, 3)) {
            return -2;
        }
        if (sign == 1 && plantedIn(c)) {
            return -3;
        }
        int was = sign(c);
        rows = with(rows, c, ".#px".charAt(sign));
        return was;
    }

    int vine(int kind, int c, int heading) {
        if (!in(c, 0, cells() - 1)) {
            return -1;
        }
        if (!in(kind, 0, 2) || !in(heading, 0, 3)) {
            return -2;
        }
        if (at(rows, c) == '#' || plantedIn(c)) {
            return -3;
        }
        if (vines.size() == 3) {
            return -4;
        }
        vines.add(new Planted(kind, c, heading));
        return vines.size() - 1;
    }

    int ofVine(int v, int what) {
        if (!vineIs(v)) {
            return -1;
        }
        Planted vine = vines.get(v);
        return what == 0 ? vine.kind() : what == 1 ? vine.cell() : what == 2 ? vine.heading() : -2;
    }

    int pull(int k) {
        if (!in(k, 0, vines.size())) {
            return -2;
        }
        int left = vines.size() - k;
        vines = new ArrayList<>(vines.subList(0, left));
        seen.removeIf(s -> s.vine() >= left);
        return left;
    }

    int frost(int day, boolean is) {
        if (!in(day, 0, 79)) {
            return -1;
        }
        if (rows.length == 0) {
            return -3;
        }
        return (is ? frosts.add(day) : frosts.remove(day)) ? 1 : 0;
    }

    // ---- 2 days

    int tip(int v, int day) {
        return vineIs(v) && in(day, 0, 79) ? now().tips.get(day)[v] : -1;
    }

    long leaves(int v, int day) {
        return vineIs(v) && in(day, 0, 79) ? now().leavesBy.get(day)[v] : LOST;
    }

    int doubts(int v, int day) {
        return vineIs(v) && in(day, 0, 79) ? now().doubtsBy.get(day)[v] : -1;
    }

    int ends(int v, int what) {
        if (!vineIs(v)) {
            return -1;
        }
        if (!in(what, 0, 1)) {
            return -2;
        }
        return what == 0 ? now().out[v] : now().dead[v];
    }

    // ---- 3 ways, laws, props

    int shortest(int v) {
        if (!vineIs(v)) {
            return -1;
        }
        Map<Integer, Integer> far = new HashMap<>();
        ArrayDeque<Integer> queue = new ArrayDeque<>();
        far.put(vines.get(v).cell(), 0);
        queue.add(vines.get(v).cell());
        while (!queue.isEmpty()) {
            int c = queue.remove();
            if (far.get(c) > 0 && at(rows, c) == 'x') {
                return far.get(c);
            }
            for (int d = 0; d < 4; d++) {
                int other = next(rows, c, d);
                if (other >= 0 && !far.containsKey(other)) {
                    far.put(other, far.get(c) + 1);
                    queue.add(other);
                }
            }
        }
        return -9;
    }

    int law(int v, int what) {
        if (!vineIs(v)) {
            return -1;
        }
        if (!in(what, 0, 1)) {
            return -2;
        }
        int[] days = new int[3];
        int best = 0;
        for (int kind = 0; kind < 3; kind++) {
            Planted own = vines.get(v);
            days[kind] = grow(rows, instead(v, new Planted(kind, own.cell(), own.heading())), frosts).out[v];
            best = rank(days[kind]) < rank(days[best]) ? kind : best;
        }
        return what == 0 ? best : days[best];
    }

    private int change(int v, int what, String which, char sign) {
        if (!vineIs(v)) {
            return -1;
        }
        if (!in(what, 0, 1)) {
            return -2;
        }
        int best = -9;
        int day = now().out[v];
        for (int c = 0; c < cells(); c++) {
            if (which.indexOf(at(rows, c)) >= 0 && !plantedIn(c)) {
                int then = grow(with(rows, c, sign), vines, frosts).out[v];
                if (rank(then) < rank(day)) {
                    best = c;
                    day = then;
                }
            }
        }
        return what == 0 ? best : day;
    }

    int prop(int v, int what) {
        return change(v, what, ".", 'p');
    }

    int closed(int v, int what) {
        return change(v, what, ".px", '#');
    }

    int first() {
        if (rows.length == 0) {
            return -3;
        }
        int best = -9;
        int[] out = now().out;
        for (int v = 0; v < vines.size(); v++) {
            if (out[v] != -9 && (best == -9 || out[v] < out[best])) {
                best = v;
            }
        }
        return best;
    }

    // ---- 4 mazes, odds, what was seen

    private static int[] mazeDays(int kind) {
        int[] days = new int[128];
        for (int k = 0; k < 128; k++) {
            StringBuilder signs = new StringBuilder(".");
            for (int c = 0; c < 7; c++) {
                signs.append((k >> c) % 2 == 0 ? '.' : '#');
            }
            String all = signs.append('x').toString();
            String[] maze = {all.substring(0, 3), all.substring(3, 6), all.substring(6)};
            days[k] = grow(maze, List.of(new Planted(kind, 0, 1)), new TreeSet<>()).out[0];
        }
        return days;
    }

    int mazes(int kind, int n) {
        if (!in(kind, 0, 2) || !in(n, 0, 79)) {
            return -2;
        }
        int many = 0;
        for (int day : MAZE_DAYS.computeIfAbsent(kind, PlainModel::mazeDays)) {
            many += rank(day) <= n ? 1 : 0;
        }
        return many;
    }

    long odds(int v, int day, int n, int which) {
        if (!vineIs(v) || !in(day, 0, 79) || !in(n, 0, 8) || !in(which, 0, 1)) {
            return LOST;
        }
        int upper = 0;
        int lower = 0;
        for (int k = 0; k < Math.pow(2, n); k++) {
            TreeSet<Integer> row = new TreeSet<>(frosts);
            for (int d = 0; d < n; d++) {
                if ((k >> d) % 2 == 1) {
                    row.add(d);
                } else {
                    row.remove(d);
                }
            }
            upper += rank(grow(rows, vines, row).out[v]) <= day ? 1 : 0;
            lower++;
        }
        int by = java.math.BigInteger.valueOf(upper).gcd(java.math.BigInteger.valueOf(lower)).intValue();
        return which == 0 ? upper / by : lower / by;
    }

    int reading(int v, int day, int c) {
        if (!vineIs(v) || !in(day, 0, 79) || !in(c, 0, cells() - 1)) {
            return -1;
        }
        if (seen.size() == 8) {
            return -4;
        }
        seen.add(new Seen(v, day, c));
        return seen.size() - 1;
    }

    int back(int k) {
        if (!in(k, 0, seen.size())) {
            return -2;
        }
        seen = new ArrayList<>(seen.subList(0, seen.size() - k));
        return seen.size();
    }

    int fits(int v) {
        if (!vineIs(v)) {
            return -1;
        }
        int set = 0;
        for (int bit = 0; bit < 12; bit++) {
            Growth g = grow(rows, instead(v, new Planted(bit / 4, vines.get(v).cell(), bit % 4)), frosts);
            boolean all = true;
            for (Seen s : seen) {
                all = all && (s.vine() != v || g.tips.get(s.day())[v] == s.cell());
            }
            set += all ? 1 << bit : 0;
        }
        return set;
    }

    // ---- 5 sheets, parts

    int sheet(int k, int lane, int n) {
        fault = 0;
        if (!in(k, 0, 3)) {
            return -1;
        }
        if (!in(lane, 0, 2) || n > 50) {
            return -2;
        }
        if (n < 0) {
            return failed(4);
        }
        sheets[k] = new long[n];
        lanes[k] = lane;
        return 1;
    }

    int lose(int k) {
        if (!in(k, 0, 3)) {
            return -1;
        }
        int had = sheets[k] == null ? 0 : 1;
        sheets[k] = null;
        return had;
    }

    int put(int k, int i, int v) {
        fault = 0;
        if (!in(k, 0, 3)) {
            return -1;
        }
        if (sheets[k] == null) {
            return failed(1);
        }
        if (!in(i, 0, sheets[k].length - 1)) {
            return failed(3);
        }
        int bits = new int[] {8, 16, 32}[lanes[k]];
        long wraps = 1L << bits;
        long low = Math.floorMod((long) v, wraps);
        sheets[k][i] = low >= wraps / 2 ? low - wraps : low;
        return 1;
    }

    long cell(int k, int i, int lane) {
        fault = 0;
        if (!in(k, 0, 3) || !in(lane, 0, 2)) {
            return LOST;
        }
        if (sheets[k] != null && lanes[k] != lane) {
            fault = 2;
        } else if (sheets[k] == null) {
            fault = 1;
        } else if (!in(i, 0, sheets[k].length - 1)) {
            fault = 3;
        }
        return fault != 0 ? LOST : sheets[k][i];
    }

    int copy(int k, int i, int other, int j, int n) {
        fault = 0;
        if (!in(k, 0, 3) || !in(other, 0, 3)) {
            return -1;
        }
        if (sheets[k] == null || sheets[other] == null) {
            return failed(1);
        }
        if (lanes[k] != lanes[other]) {
            return failed(2);
        }
        boolean inside = i >= 0 && j >= 0 && n >= 0;
        if (!inside || (long) i + n > sheets[k].length || (long) j + n > sheets[other].length) {
            return failed(3);
        }
        long[] were = sheets[k].clone();
        for (int c = 0; c < n; c++) {
            sheets[other][j + c] = were[i + c];
        }
        return n;
    }

    private int body(int kind, int cell) {
        trace = 31 * trace + kind + 1;
        if (kind == 0) {
            return cell;
        }
        int above = body(kind - 1, cell);
        return kind == 1 ? above + 100 : above + body(0, cell);
    }

    int tell(int v) {
        return vineIs(v) ? body(vines.get(v).kind(), vines.get(v).cell()) : -1;
    }

    int tie(int v) {
        if (!vineIs(v)) {
            return -1;
        }
        boolean own = vines.get(v).kind() == 2;
        trace = 31 * trace + (own ? 5 : 4);
        return own ? 30 : v;
    }

    int as(int v, int kind) {
        fault = 0;
        if (!vineIs(v)) {
            return -1;
        }
        if (!in(kind, 0, 2)) {
            return -2;
        }
        return kind > vines.get(v).kind() ? failed(2) : 1;
    }

    int many(int what) {
        return what == 0 ? cells() : what == 1 ? wide() : what == 2 ? vines.size() : what == 3 ? seen.size() : -2;
    }
}
