import java.util.Random;

/** Promises 22 to 38: what is done in thought, by edges and against the plainest search. */
public final class ThoughtTest {
    public static void main(String[] args) {
        air();
        through();
        beside();
        strings();
        eaves();
        cites();
        asked();
        upright();
        arbiter();
        ball();
        game();
        leaps();
        Due.close("ThoughtTest");
    }

    /** Uses the cells whose bits are set, each roof's heights in spans; 16 uses at most. */
    private static SwallowsAir airWith(boolean[][] used) {
        SwallowsAir x = new SwallowsAir();
        x.person(0, 0, 0);
        for (int r = 0; r < 10; r++) {
            for (int h = 0; h < 8; h++) {
                if (used[r][h]) {
                    int to = h;
                    while (to + 1 < 8 && used[r][to + 1]) {
                        to++;
                    }
                    if (x.take(0, 0, r, 10 * h + to, 30) < 0) {
                        used[r][h] = false;
                    } else {
                        h = to;
                    }
                }
            }
        }
        return x;
    }

    private static void air() {
        Random random = new Random(1);
        for (int n = 0; n < 60; n++) {
            boolean[][] used = new boolean[10][8];
            for (int i = 0; i < random.nextInt(17); i++) {
                int r = random.nextInt(10);
                int from = random.nextInt(8);
                for (int h = from; h < Math.min(8, from + 1 + random.nextInt(8)); h++) {
                    used[r][h] = true;
                }
            }
            SwallowsAir x = airWith(used);
            int cells = 0;
            for (boolean[] roof : used) {
                for (boolean cell : roof) {
                    cells += cell ? 1 : 0;
                }
            }
            Due.due("used cells", x.look(3), cells);
            wideIn(x, used);
            for (int i = 0; i < 6; i++) {
                throughIn(x, used, 10 * random.nextInt(10) + random.nextInt(8),
                        10 * random.nextInt(10) + random.nextInt(8));
            }
        }
        SwallowsAir x = new SwallowsAir();
        x.person(0, 0, 0);
        for (int r = 0; r < 10; r++) {
            x.take(0, 0, r, 7, 30);
        }
        Due.due("all used", x.wide(0), 0);
        Due.due("all used", x.wide(1), -1);
        Due.due("wide(2)", x.wide(2), -1);
        Due.due("wide(-1)", x.wide(-1), -1);
        Due.due("through used", x.through(0, 0, 0), -1);
        x.ends(9);
        Due.due("one roof", x.wide(0), 8);
        Due.due("one roof", x.wide(1), 90);
    }

    private static void wideIn(SwallowsAir x, boolean[][] used) {
        int best = 0;
        int cell = -1;
        for (int r = 0; r < 10; r++) {
            for (int h = 0; h < 8; h++) {
                for (int r2 = r; r2 < 10; r2++) {
                    for (int h2 = h; h2 < 8; h2++) {
                        boolean free = true;
                        for (int i = r; i <= r2; i++) {
                            for (int j = h; j <= h2; j++) {
                                free &= !used[i][j];
                            }
                        }
                        int size = (r2 - r + 1) * (h2 - h + 1);
                        if (free && size > best) {
                            best = size;
                            cell = 10 * r + h;
                        }
                    }
                }
            }
        }
        Due.due("wide(0)", x.wide(0), best);
        Due.due("wide(1)", x.wide(1), cell);
    }

    /** Ways of each length, step by step, until one arrives: the ways of fewest steps. */
    private static void throughIn(SwallowsAir x, boolean[][] used, int a, int b) {
        int steps = -1;
        long ways = -1;
        long[][] at = new long[10][8];
        if (!used[a / 10][a % 10] && !used[b / 10][b % 10]) {
            at[a / 10][a % 10] = 1;
            for (int n = 0; n <= 80 && steps < 0; n++) {
                if (at[b / 10][b % 10] > 0) {
                    steps = n;
                    ways = at[b / 10][b % 10];
                }
                long[][] then = new long[10][8];
                for (int r = 0; r < 10; r++) {
                    for (int h = 0; h < 8; h++) {
                        if (!used[r][h]) {
                            long sum = r > 0 ? at[r - 1][h] : 0;
                            sum += r < 9 ? at[r + 1][h] : 0;
                            sum += h > 0 ? at[r][h - 1] : 0;
                            sum += h < 7 ? at[r][h + 1] : 0;
                            then[r][h] = sum;
                        }
                    }
                }
                at = then;
            }
        }
        Due.due("through(" + a + ", " + b + ", 0)", x.through(a, b, 0), steps);
        Due.due("through(" + a + ", " + b + ", 1)", x.through(a, b, 1), ways < 0 ? -1 : ways % 1000000007);
    }

    private static void through() {
        SwallowsAir x = new SwallowsAir();
        for (int cell : new int[] {-1, 8, 9, 18, 98, 99, 100, 107, Integer.MAX_VALUE, Integer.MIN_VALUE}) {
            for (int what = 0; what < 2; what++) {
                Due.due("through(" + cell + ", 0)", x.through(cell, 0, what), -1);
                Due.due("through(0, " + cell + ")", x.through(0, cell, what), -1);
            }
        }
        Due.due("wide(0)", x.wide(0), 80);
        Due.due("wide(1)", x.wide(1), 0);
        Due.due("wide(2)", x.wide(2), -1);
        Due.due("wide(-1)", x.wide(-1), -1);
        Due.due("through(0, 1, 2)", x.through(0, 1, 2), -1);
        Due.due("through(0, 1, -1)", x.through(0, 1, -1), -1);
        Due.due("through(97, 0, 1)", x.through(97, 0, 1), 11440);
        Due.due("through(90, 7, 0)", x.through(90, 7, 0), 16);
    }

    private static void beside() {
        SwallowsAir x = new SwallowsAir();
        int[][] wrong = {{-2, 0, 0}, {100, 100, 0}, {5, 4, 0}, {0, 100, 0}, {0, 0, -1}, {0, 0, 100}};
        for (int[] w : wrong) {
            Due.due("wish(" + w[0] + ", " + w[1] + ", " + w[2] + ")", x.wish(w[0], w[1], w[2]), -1);
        }
        Due.due("beside(2)", x.beside(2), -1);
        Due.due("beside(-1)", x.beside(-1), -1);
        Due.due("of none", x.beside(0), 0);
        Due.due("of none", x.beside(1), 0);
        Due.due("wish", x.wish(99, 99, 0), 1);
        Due.due("worth nothing", x.beside(1), 0);
        x.wish(7, 7, 5);
        x.wish(7, 7, 6);
        x.wish(8, 20, 1);
        x.wish(20, 30, 1);
        Due.due("on one day", x.beside(0), 7);
        Due.due("on one day", x.beside(1), 12);
        Random random = new Random(2);
        for (int n = 0; n < 60; n++) {
            Due.due("wish(NONE)", x.wish(-1, -5, 1000), 0);
            int count = n % 9;
            int[][] rows = new int[count][];
            for (int i = 0; i < count; i++) {
                int from = random.nextInt(100);
                int last = Math.min(99, from + random.nextInt(n < 30 ? 3 : 50));
                rows[i] = new int[] {from, last, random.nextInt(n % 2 == 0 ? 4 : 100)};
                Due.due("wish", x.wish(from, last, rows[i][2]), i + 1);
            }
            if (count == 8) {
                Due.due("ninth", x.wish(0, 0, 0), -1);
            }
            int best = 0;
            int least = 0;
            for (int set = (1 << count) - 1; set >= 0; set--) {
                int[] days = new int[100];
                int worth = 0;
                boolean clash = false;
                for (int i = 0; i < count; i++) {
                    if ((set >> i & 1) == 1) {
                        worth += rows[i][2];
                        for (int d = rows[i][0]; d <= rows[i][1]; d++) {
                            clash |= ++days[d] > 1;
                        }
                    }
                }
                if (!clash && worth >= best) {
                    best = worth;
                    least = set;
                }
            }
            Due.due("beside(0)", x.beside(0), best);
            Due.due("beside(1)", x.beside(1), least);
        }
    }

    private static boolean cross(int[] a, int[] b) {
        return a[0] < b[0] && a[1] > b[1] || b[0] < a[0] && b[1] > a[1];
    }

    /** Whether kites from i on can be put into layers, none beside one that it crosses. */
    private static boolean fits(int[][] kites, int[] layer, int i, int layers) {
        if (i == kites.length) {
            return true;
        }
        for (int l = 0; l < layers; l++) {
            boolean free = true;
            for (int j = 0; j < i; j++) {
                free &= layer[j] != l || !cross(kites[i], kites[j]);
            }
            layer[i] = l;
            if (free && fits(kites, layer, i + 1, layers)) {
                return true;
            }
        }
        return false;
    }

    private static void strings() {
        SwallowsAir x = new SwallowsAir();
        Due.due("kite(-2, 0)", x.kite(-2, 0), -1);
        Due.due("kite(100, 0)", x.kite(100, 0), -1);
        Due.due("kite(0, -1)", x.kite(0, -1), -1);
        Due.due("kite(0, 100)", x.kite(0, 100), -1);
        Due.due("strings(2)", x.strings(2), -1);
        Due.due("strings(-1)", x.strings(-1), -1);
        Random random = new Random(3);
        for (int n = 0; n < 60; n++) {
            Due.due("kite(NONE)", x.kite(-1, 500), 0);
            int count = n % 11;
            int range = n < 30 ? 6 : 100;
            int[][] kites = new int[count][];
            for (int i = 0; i < count; i++) {
                kites[i] = new int[] {random.nextInt(range), random.nextInt(range)};
                Due.due("kite", x.kite(kites[i][0], kites[i][1]), i + 1);
            }
            if (count == 10) {
                Due.due("eleventh", x.kite(0, 0), -1);
            }
            int crossings = 0;
            for (int i = 0; i < count; i++) {
                for (int j = 0; j < i; j++) {
                    crossings += cross(kites[i], kites[j]) ? 1 : 0;
                }
            }
            int layers = 0;
            while (!fits(kites, new int[count], 0, layers)) {
                layers++;
            }
            Due.due("crossings", x.strings(0), crossings);
            Due.due("layers", x.strings(1), layers);
        }
    }

    private static int[] bestOrder;
    private static int bestSum;

    private static void orders(int[][] ways, int[] order, int s, int sum) {
        if (s == 6) {
            if (sum < bestSum) {
                bestSum = sum;
                bestOrder = order.clone();
            }
            return;
        }
        for (int e = 0; e < 6; e++) {
            boolean free = true;
            for (int t = 0; t < s; t++) {
                free &= order[t] != e;
            }
            if (free) {
                order[s] = e;
                orders(ways, order, s + 1, sum + ways[s][e]);
            }
        }
    }

    private static void eaves() {
        SwallowsAir x = new SwallowsAir();
        int[][] wrong = {{-1, 0, 0}, {6, 0, 0}, {0, -1, 0}, {0, 6, 0}, {0, 0, -1}, {0, 0, 100}};
        for (int[] w : wrong) {
            Due.due("way(" + w[0] + ", " + w[1] + ", " + w[2] + ")", x.way(w[0], w[1], w[2]), false);
        }
        for (int what : new int[] {-1, 1, 9, 16, Integer.MAX_VALUE}) {
            Due.due("eaves(" + what + ")", x.eaves(what), -1);
        }
        Random random = new Random(4);
        int[][] ways = new int[6][6];
        for (int n = 0; n < 50; n++) {
            int range = n % 2 == 0 ? 100 : 4;
            for (int i = 0; i < (n == 0 ? 0 : 36); i++) {
                ways[i / 6][i % 6] = random.nextInt(range);
                Due.due("way", x.way(i / 6, i % 6, ways[i / 6][i % 6]), true);
                if (i % 9 == 8 || n < 3) {
                    eavesIn(x, ways);
                }
            }
            eavesIn(x, ways);
            x = copyOf(ways);
        }
    }

    /** An object has 512 calls only. */
    private static SwallowsAir copyOf(int[][] ways) {
        SwallowsAir x = new SwallowsAir();
        for (int i = 0; i < 36; i++) {
            x.way(i / 6, i % 6, ways[i / 6][i % 6]);
        }
        return x;
    }

    private static void eavesIn(SwallowsAir x, int[][] ways) {
        bestSum = Integer.MAX_VALUE;
        orders(ways, new int[6], 0, 0);
        Due.due("eaves(0)", x.eaves(0), bestSum);
        for (int s = 0; s < 6; s++) {
            Due.due("eaves(1" + s + ")", x.eaves(10 + s), bestOrder[s]);
        }
    }

    private static void cites() {
        Random random = new Random(5);
        for (int n = 0; n < 40; n++) {
            SwallowsAir x = new SwallowsAir();
            boolean[][] reach = new boolean[16][16];
            boolean[][] follows = new boolean[16][16];
            StringBuilder text = new StringBuilder();
            for (int i = 0; i < n % 17; i++) {
                int a = random.nextInt(16);
                int b = random.nextInt(16);
                if (a != b) {
                    int later = n % 4 == 0 ? a : Math.max(a, b);
                    int earlier = a + b - later;
                    if (n % 4 == 1) {
                        int t = later;
                        later = earlier;
                        earlier = t;
                    }
                    text.append("case ").append(later).append(" follows ").append(earlier).append(";");
                    follows[later][earlier] = true;
                    reach[earlier][later] = true;
                }
            }
            x.text(3);
            Due.tell(x, 3, text.toString());
            for (int k = 0; k < 16; k++) {
                for (int i = 0; i < 16; i++) {
                    for (int j = 0; j < 16; j++) {
                        reach[i][j] |= reach[i][k] && reach[k][j];
                    }
                }
            }
            boolean round = false;
            for (int i = 0; i < 16; i++) {
                int set = 0;
                for (int j = 0; j < 16; j++) {
                    set |= reach[i][j] ? 1 << j : 0;
                }
                round |= reach[i][i];
                Due.due("founds " + i + " of " + text, x.cites(i, 0), set);
            }
            orderIn(x, follows, round);
        }
        SwallowsAir x = new SwallowsAir();
        Due.due("cites(-1, 0)", x.cites(-1, 0), -1);
        Due.due("cites(16, 0)", x.cites(16, 0), -1);
        Due.due("cites(16, 1)", x.cites(16, 1), -1);
        Due.lines(x, 3, "case 0 follows 1; case 2 follows 0; case 15 follows 2;", 3);
        Due.due("cites(0, 0)", x.cites(0, 0), 4 + 32768);
        Due.due("cites(0, 1)", x.cites(0, 1), 1);
        Due.lines(x, 3, "", 0);
        Due.due("cites(0, 0)", x.cites(0, 0), 0);
        Due.due("cites(0, 1)", x.cites(0, 1), 0);
        Due.due("cites(15, 1)", x.cites(15, 1), 15);
        Due.due("cites(0, 2)", x.cites(0, 2), -1);
        Due.due("cites(0, -1)", x.cites(0, -1), -1);
    }

    private static void orderIn(SwallowsAir x, boolean[][] follows, boolean round) {
        boolean[] placed = new boolean[16];
        for (int place = 0; place < 16 && !round; place++) {
            for (int i = 0; i < 16; i++) {
                boolean ready = !placed[i];
                for (int j = 0; j < 16; j++) {
                    ready &= !follows[i][j] || placed[j];
                }
                if (ready) {
                    placed[i] = true;
                    Due.due("order of " + i, x.cites(i, 1), place);
                    break;
                }
            }
        }
        for (int i = 0; i < 16 && round; i++) {
            Due.due("order of a round", x.cites(i, 1), -1);
        }
    }

    private static void asked() {
        SwallowsAir x = new SwallowsAir();
        Due.due("voice(-1, 0)", x.voice(-1, 0), false);
        Due.due("voice(10, 0)", x.voice(10, 0), false);
        Due.due("voice(0, -1)", x.voice(0, -1), false);
        Due.due("voice(0, 1024)", x.voice(0, 1024), false);
        Due.due("asked(2)", x.asked(2), -1);
        Due.due("asked(-1)", x.asked(-1), -1);
        Due.due("voice(3, 1023)", x.voice(3, 1023), true);
        Due.due("one calls", x.asked(0), 1);
        Due.due("it", x.asked(1), 8);
        x.voice(3, 0);
        Due.due("its own always", x.asked(0), 10);
        Random random = new Random(6);
        int[] sets = new int[10];
        for (int n = 0; n < 40; n++) {
            for (int r = 0; r < 10; r++) {
                int set = random.nextInt(1024) & random.nextInt(1024) & (n % 2 == 0 ? 1023 : random.nextInt(1024));
                sets[r] = set | 1 << r;
                Due.due("voice", x.voice(r, set), true);
            }
            int best = 99;
            int least = 0;
            for (int set = 1023; set >= 0; set--) {
                int reached = 0;
                int count = 0;
                for (int r = 0; r < 10; r++) {
                    if ((set & 1 << r) != 0) {
                        reached |= sets[r];
                        count++;
                    }
                }
                if (reached == 1023 && count <= best) {
                    best = count;
                    least = set;
                }
            }
            Due.due("asked(0)", x.asked(0), best);
            Due.due("asked(1)", x.asked(1), least);
        }
    }

    private static void upright() {
        SwallowsAir x = new SwallowsAir();
        Due.due("upright(0, 0)", x.upright(0, 0), -1);
        x.person(7, 4, 0);
        Due.due("upright(0, 2)", x.upright(0, 2), -1);
        Due.due("upright(0, -1)", x.upright(0, -1), -1);
        Due.due("upright(-1, 0)", x.upright(-1, 0), -1);
        Due.due("free", x.upright(0, 0), 8);
        Due.due("free", x.upright(0, 1), 1);
        x.take(0, 0, 5, 7, 30);
        Due.due("beside", x.upright(0, 0), 8);
        x.take(0, 0, 4, 77, 30);
        Due.due("below 7", x.upright(0, 0), 7);
        Due.due("tall 7", x.upright(0, 1), 1);
        x.take(0, 0, 4, 55, 30);
        Due.due("below 5", x.upright(0, 0), 5);
        Due.due("tall 7", x.upright(0, 1), 0);
        x.set(3, 0, 1);
        Due.due("stoops 1", x.upright(0, 1), 0);
        x.set(3, 0, 2);
        Due.due("stoops 2", x.upright(0, 1), 1);
        x.take(0, 0, 4, 0, 30);
        Due.due("none", x.upright(0, 0), 0);
        Due.due("none", x.upright(0, 1), 0);
        x.set(0, 0, 1);
        Due.due("stoops more than tall", x.upright(0, 1), 1);
        x.set(2, 0, 6);
        Due.due("on another roof", x.upright(0, 0), 8);
    }

    private static void arbiter() {
        SwallowsAir x = new SwallowsAir();
        int[][] wrong = {{-2, 0, 0, 0}, {1000, 0, 0, 0}, {0, -1, 0, 0}, {0, 1000, 0, 0}, {0, 0, -1, 0},
            {0, 0, 1000, 0}, {0, 0, 0, -1}, {0, 0, 0, 10}};
        for (int[] w : wrong) {
            Due.due("point", x.point(w[0], w[1], w[2], w[3]), -1);
        }
        Due.due("arbiter(2)", x.arbiter(2), -1);
        Due.due("arbiter(-1)", x.arbiter(-1), -1);
        Random random = new Random(7);
        for (int n = 0; n < 40; n++) {
            Due.due("point(NONE)", x.point(-1, -1, -1, -1), 0);
            long sum = 0;
            int first = 0;
            int range = n % 2 == 0 ? 1000 : 5;
            for (int i = 0; i < n % 9; i++) {
                int one = random.nextInt(range);
                int other = random.nextInt(range);
                int mark = random.nextInt(range);
                int weight = random.nextInt(10);
                Due.due("point", x.point(one, other, mark, weight), i + 1);
                boolean toOther = Math.abs(other - mark) < Math.abs(one - mark);
                sum += weight * (toOther ? other : one);
                first += toOther ? 0 : 1;
            }
            if (n % 9 == 8) {
                Due.due("ninth", x.point(0, 0, 0, 0), -1);
            }
            Due.due("arbiter(0)", x.arbiter(0), sum);
            Due.due("arbiter(1)", x.arbiter(1), first);
        }
        for (int i = 0; i < 8; i++) {
            x.point(i == 0 ? -1 : 999, 0, 0, 0);
        }
        x.point(999, 999, 999, 9);
        Due.due("most", x.arbiter(0), 999 * 9);
    }

    private static void ball() {
        SwallowsAir x = new SwallowsAir();
        for (int v = -1; v <= 42; v++) {
            for (int g = -1; g <= 10; g++) {
                boolean can = v >= 1 && v <= 40 && g >= 1 && g <= 9;
                int highest = 0;
                int day = 0;
                for (int d = 1; d < 200 && day == 0 && can; d++) {
                    int high = d * v - g * d * (d - 1) / 2;
                    highest = Math.max(highest, high);
                    day = high <= 0 ? d : 0;
                }
                Due.due("ball(" + v + ", " + g + ", 0)", x.ball(v, g, 0), can ? highest : -1);
                Due.due("ball(" + v + ", " + g + ", 1)", x.ball(v, g, 1), can ? day : -1);
            }
            x = v % 20 == 0 ? new SwallowsAir() : x;
        }
        Due.due("ball(1, 1, 2)", x.ball(1, 1, 2), -1);
        Due.due("ball(1, 1, -1)", x.ball(1, 1, -1), -1);
    }

    private static final java.util.HashMap<String, Boolean> WINS = new java.util.HashMap<>();

    private static boolean wins(int[] stoops) {
        int[] sorted = stoops.clone();
        java.util.Arrays.sort(sorted);
        String key = java.util.Arrays.toString(sorted);
        Boolean known = WINS.get(key);
        if (known == null) {
            known = move(sorted) != null;
            WINS.put(key, known);
        }
        return known;
    }

    private static int[] move(int[] stoops) {
        for (int p = 0; p < stoops.length; p++) {
            for (int by = 1; by <= stoops[p]; by++) {
                if (by == 1 || stoops[p] - by == stoops[p] / 2) {
                    int[] then = stoops.clone();
                    then[p] -= by;
                    if (!wins(then)) {
                        return new int[] {p, by};
                    }
                }
            }
        }
        return null;
    }

    private static void game() {
        Random random = new Random(8);
        for (int n = 0; n < 80; n++) {
            SwallowsAir x = new SwallowsAir();
            int[] stoops = new int[n < 10 ? 1 : 1 + random.nextInt(5)];
            for (int p = 0; p < stoops.length; p++) {
                stoops[p] = n < 8 ? n : random.nextInt(8);
                x.person(0, 0, 0);
                x.set(3, p, stoops[p]);
            }
            int[] best = move(stoops);
            String of = java.util.Arrays.toString(stoops);
            Due.due("game(0) of " + of, x.game(0), best == null ? -1 : best[0]);
            Due.due("game(1) of " + of, x.game(1), best == null ? -1 : best[1]);
            Due.due("game(2)", x.game(2), -1);
            Due.due("game(-1)", x.game(-1), -1);
        }
    }

    private static int leapsIn(boolean[] barred, int from, int n) {
        if (from == n) {
            return 1;
        }
        int ways = 0;
        for (int to = from + 1; to <= Math.min(n, from + 3); to++) {
            ways += barred[to] ? 0 : leapsIn(barred, to, n);
        }
        return ways;
    }

    private static void leaps() {
        Random random = new Random(9);
        for (int m = 0; m < 40; m++) {
            SwallowsAir x = new SwallowsAir();
            x.person(0, 0, 0);
            boolean[] barred = new boolean[10];
            for (int r = 0; r < 10 && m > 0; r++) {
                int kind = random.nextInt(5);
                barred[r] = kind == 0;
                if (kind < 2) {
                    x.take(0, 0, r, kind == 0 ? 3 : 13, 30);
                }
            }
            for (int n = 1; n <= 9; n++) {
                Due.due("leaps(" + n + ")", x.leaps(n), leapsIn(barred, 0, n));
            }
            Due.due("leaps(0)", x.leaps(0), -1);
            Due.due("leaps(10)", x.leaps(10), -1);
            Due.due("leaps(-1)", x.leaps(-1), -1);
        }
    }
}
