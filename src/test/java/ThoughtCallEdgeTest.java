/** Promises 20 to 38, sentence by sentence: what a thought answers at its edges and just beyond them. */
public final class ThoughtCallEdgeTest {
    private static final int MIN = Airs.MIN;
    private static final int MAX = Airs.MAX;
    private static final int[] NOT_0_1 = {-1, 2, 3, MIN, MAX};

    public static void main(String[] args) {
        would();
        wouldUsed();
        wouldCantBe();
        goes();
        goesCantBe();
        through();
        throughNone();
        wide();
        wish();
        wishNone();
        wishEight();
        beside();
        kite();
        kiteNone();
        kiteTen();
        strings();
        way();
        eaves();
        cites();
        voice();
        asked();
        upright();
        point();
        pointNone();
        pointEight();
        arbiter();
        ball();
        game();
        leaps();
        Due.close("ThoughtCallEdgeTest");
    }

    private static void would() {
        Due.sentence("Promise 20", "WOULD: leave");
        int[][] can = {{0, 0, 0, 0, 1, 800}, {1, 0, 0, 0, 1, 800}, {0, 5, 0, 0, 1, 800}, {0, 0, 9, 0, 1, 800},
            {0, 0, 2, 0, 1, 700}, {0, 0, 0, 7, 1, 380}, {0, 0, 0, 77, 1, 380}, {0, 0, 0, 0, 30, 800}};
        for (int day : new int[] {0, 89, 90}) {
            SwallowsAir x = Airs.winter();
            x.set(5, 0, day);
            String before = Airs.seen(x);
            for (int[] w : can) {
                Due.due("would" + java.util.Arrays.toString(w), x.would(w[0], w[1], w[2], w[3], w[4]), w[5]);
            }
            Due.same("would", Airs.seen(x), before);
        }
    }

    private static void wouldUsed() {
        Due.sentence("Promise 20", "NONE - 1 less leave, if CELLS are used, or there are 16 uses");
        SwallowsAir x = Airs.winter();
        Airs.takes(x, 15, 30);
        Due.due("free, 15 uses", x.would(0, 0, 9, 14, 1), 560);
        Due.due("used, 15 uses", x.would(0, 0, 9, 4, 1), -2 - 560);
        Airs.law(x, "leave 0;");
        Due.due("free, leave 0", x.would(0, 0, 9, 14, 1), 0);
        Due.due("used, leave 0", x.would(0, 0, 9, 4, 1), -2);
        Airs.law(x, "leave 1000;");
        Due.due("free, leave 1000", x.would(0, 0, 9, 14, 1), 1000);
        Due.due("used, leave 1000", x.would(0, 0, 9, 4, 1), -1002);
        x.take(0, 0, 9, 77, 1);
        Due.due("free, 16 uses", x.would(0, 0, 9, 14, 1), -1002);
        Due.due("used, 16 uses", x.would(0, 0, 9, 4, 1), -1002);
    }

    private static void wouldCantBe() {
        Due.sentence("Promise 20", "NONE if one can't be");
        int[][] cant = {{-1, 0, 0, 0, 1}, {2, 0, 0, 0, 1}, {0, -1, 0, 0, 1}, {0, 6, 0, 0, 1}, {0, 0, -1, 0, 1},
            {0, 0, 10, 0, 1}, {0, 0, 0, -1, 1}, {0, 0, 0, 8, 1}, {0, 0, 0, 9, 1}, {0, 0, 0, 10, 1}, {0, 0, 0, 76, 1},
            {0, 0, 0, 78, 1}, {0, 0, 0, 80, 1}, {0, 0, 0, 88, 1}, {0, 0, 0, 107, 1}, {0, 0, 0, 0, 0}, {0, 0, 0, 0, 31},
            {MIN, 0, 0, 0, 1}, {MAX, 0, 0, 0, 1}, {0, MIN, 0, 0, 1}, {0, MAX, 0, 0, 1}, {0, 0, MIN, 0, 1},
            {0, 0, MAX, 0, 1}, {0, 0, 0, MIN, 1}, {0, 0, 0, MAX, 1}, {0, 0, 0, 0, MIN}, {0, 0, 0, 0, MAX}};
        SwallowsAir x = Airs.winter();
        for (int[] w : cant) {
            Due.due("would" + java.util.Arrays.toString(w), x.would(w[0], w[1], w[2], w[3], w[4]), -1);
        }
        Airs.takes(x, 16, 30);
        for (int[] w : cant) {
            Due.due("beside 16 uses" + java.util.Arrays.toString(w), x.would(w[0], w[1], w[2], w[3], w[4]), -1);
        }
    }

    private static void goes() {
        Due.sentence("Promise 21", "GOES what 0 RENT, 1 uses, 2 FINED, 3 MARKS. (n 1 .. 60)");
        SwallowsAir x = Airs.summer();
        x.take(0, 0, 2, 0, 9);
        x.take(1, 0, 8, 0, 9);
        x.ask(0, 0, 0, 0, 30);
        int rent = x.look(4);
        String before = Airs.seen(x);
        int[] one = {rent + 45 + 7, x.look(2) - 2, 52, 2};
        int[] sixty = {rent + 45 + 7, 0, 52, 2};
        for (int what = 0; what < 4; what++) {
            Due.due("goes(1, " + what + ")", x.goes(1, what), one[what]);
            Due.due("goes(60, " + what + ")", x.goes(60, what), sixty[what]);
        }
        Due.same("goes", Airs.seen(x), before);
    }

    private static void goesCantBe() {
        Due.sentence("Promise 21", "NONE if one can't be, or another what.");
        SwallowsAir x = Airs.summer();
        for (int n : new int[] {0, -1, 61, MIN, MAX}) {
            for (int what = 0; what < 4; what++) {
                Due.due("goes(" + n + ", " + what + ")", x.goes(n, what), -1);
            }
        }
        for (int what : new int[] {-1, 4, MIN, MAX}) {
            Due.due("goes(1, " + what + ")", x.goes(1, what), -1);
        }
        x.set(5, 0, 9999);
        Due.due("on the last DAY, one", x.goes(1, 0), 0);
        Due.due("on the last DAY, sixty", x.goes(60, 0), 0);
        Due.due("on the last DAY, sixty-one", x.goes(61, 0), -1);
    }

    private static void through() {
        Due.sentence("Promise 22", "THROUGH what 0 steps, 1 ways.");
        SwallowsAir x = new SwallowsAir();
        int[][] rows = {{0, 0, 0, 1}, {97, 97, 0, 1}, {0, 97, 16, 11440}, {7, 90, 16, 11440}, {90, 7, 16, 11440},
            {0, 7, 7, 1}, {0, 90, 9, 1}, {0, 11, 2, 2}, {45, 46, 1, 1}, {45, 55, 1, 1}};
        for (int[] w : rows) {
            Due.due("through(" + w[0] + ", " + w[1] + ", 0)", x.through(w[0], w[1], 0), w[2]);
            Due.due("through(" + w[0] + ", " + w[1] + ", 1)", x.through(w[0], w[1], 1), w[3]);
        }
    }

    private static void throughNone() {
        Due.sentence("Promise 22", "NONE if there is no way, one can't be, or another what.");
        SwallowsAir x = Airs.winter();
        for (int cell : new int[] {-1, -10, 8, 9, 18, 79, 98, 99, 100, 107, MIN, MAX}) {
            Due.due("through(" + cell + ", 0, 0)", x.through(cell, 0, 0), -1);
            Due.due("through(0, " + cell + ", 1)", x.through(0, cell, 1), -1);
            Due.due("through(" + cell + ", " + cell + ", 0)", x.through(cell, cell, 0), -1);
        }
        for (int what : NOT_0_1) {
            Due.due("through(0, 1, " + what + ")", x.through(0, 1, what), -1);
        }
        x.take(0, 0, 3, 6, 30);
        Due.due("over it", x.through(20, 40, 0), 16);
        x.take(0, 0, 3, 77, 30);
        for (int what = 0; what < 2; what++) {
            Due.due("no way, " + what, x.through(20, 40, what), -1);
            Due.due("a used end, " + what, x.through(20, 30, what), -1);
            Due.due("a used beginning, " + what, x.through(30, 20, what), -1);
            Due.due("used, to itself, " + what, x.through(30, 30, what), -1);
        }
        Due.due("on this side", x.through(20, 0, 0), 2);
        Due.due("on that side", x.through(40, 97, 0), 12);
    }

    private static void wide() {
        Due.sentence("Promise 23", "WIDE what 0 how many CELLS, 1 the least CELL.");
        SwallowsAir x = Airs.winter();
        Due.due("wide(0)", x.wide(0), 80);
        Due.due("wide(1)", x.wide(1), 0);
        Due.sentence("Promise 23", "NONE if all are used (1), or another what.");
        for (int what : NOT_0_1) {
            Due.due("wide(" + what + ")", x.wide(what), -1);
        }
        for (int roof = 0; roof < 9; roof++) {
            x.take(0, 0, roof, 7, 30);
        }
        x.take(0, 0, 9, 6, 30);
        Due.due("one CELL is free", x.wide(0), 1);
        Due.due("that one", x.wide(1), 97);
        x.take(0, 0, 9, 77, 30);
        Due.due("all are used", x.wide(0), 0);
        Due.due("all are used", x.wide(1), -1);
        x.ends(0);
        Due.due("a ROOF is free", x.wide(0), 8);
        Due.due("that one", x.wide(1), 0);
    }

    private static void wish() {
        Due.sentence("Promise 24", "A wish for BESIDE: how many; NONE if one can't be");
        int[][] can = {{0, 0, 0}, {99, 99, 99}, {0, 99, 1}, {98, 99, 0}, {50, 50, 98}};
        int[][] cant = {{-2, 0, 0}, {100, 100, 0}, {99, 98, 0}, {5, 4, 0}, {0, -1, 0}, {0, 0, -1}, {0, 0, 100},
            {MIN, 0, 0}, {MAX, MAX, 0}, {0, MIN, 0}, {0, 0, MIN}, {0, 0, MAX}, {0, 100, 0}, {99, 100, 0}, {0, MAX, 0}};
        SwallowsAir x = new SwallowsAir();
        for (int i = 0; i < can.length; i++) {
            for (int[] w : cant) {
                Due.due("wish(" + w[0] + ", " + w[1] + ", " + w[2] + ")", x.wish(w[0], w[1], w[2]), -1);
            }
            Due.due("wish " + i, x.wish(can[i][0], can[i][1], can[i][2]), i + 1);
        }
        Due.due("beside(0)", x.beside(0), 98 + 99);
    }

    private static void wishNone() {
        Due.sentence("Promise 24", "(from NONE: none is then)");
        SwallowsAir x = new SwallowsAir();
        Due.due("of none none", x.wish(-1, 0, 0), 0);
        x.wish(1, 1, 5);
        x.wish(2, 2, 5);
        Due.due("of two none, whatever else is told", x.wish(-1, MIN, MAX), 0);
        Due.due("beside(0)", x.beside(0), 0);
        Due.due("beside(1)", x.beside(1), 0);
        Due.due("the first again", x.wish(3, 3, 7), 1);
        Due.due("beside(1)", x.beside(1), 1);
        Due.due("beside(0)", x.beside(0), 7);
    }

    private static void wishEight() {
        Due.sentence("Promise 24", "NONE if .. there are eight.");
        SwallowsAir x = new SwallowsAir();
        for (int i = 0; i < 8; i++) {
            Due.due("wish", x.wish(10 * i, 10 * i + 9, i + 1), i + 1);
        }
        Due.due("a ninth", x.wish(90, 90, 99), -1);
        Due.due("worth", x.beside(0), 36);
        Due.due("all eight", x.beside(1), 255);
        Due.due("none then", x.wish(-1, 0, 0), 0);
        Due.due("one again", x.wish(0, 0, 0), 1);
    }

    private static void beside() {
        Due.sentence("Promise 25", "BESIDE what 0 worth, 1 the set. NONE for another what.");
        SwallowsAir x = new SwallowsAir();
        Due.due("of none", x.beside(0), 0);
        Due.due("of none", x.beside(1), 0);
        x.wish(0, 1, 4);
        x.wish(2, 3, 5);
        Due.due("beside(0)", x.beside(0), 9);
        Due.due("beside(1)", x.beside(1), 3);
        for (int what : NOT_0_1) {
            Due.due("beside(" + what + ")", x.beside(what), -1);
        }
    }

    private static void kite() {
        Due.sentence("Promise 26", "A kite: how many; NONE if one can't be");
        int[][] can = {{0, 0}, {99, 0}, {0, 99}, {99, 99}};
        int[][] cant = {{-2, 0}, {100, 0}, {0, -1}, {0, 100}, {MIN, 0}, {MAX, 0}, {0, MIN}, {0, MAX}};
        SwallowsAir x = new SwallowsAir();
        for (int i = 0; i < can.length; i++) {
            for (int[] w : cant) {
                Due.due("kite(" + w[0] + ", " + w[1] + ")", x.kite(w[0], w[1]), -1);
            }
            Due.due("kite " + i, x.kite(can[i][0], can[i][1]), i + 1);
        }
        Due.due("crossings", x.strings(0), 1);
    }

    private static void kiteNone() {
        Due.sentence("Promise 26", "(hand NONE: none is then)");
        SwallowsAir x = new SwallowsAir();
        Due.due("of none none", x.kite(-1, 0), 0);
        x.kite(1, 9);
        x.kite(2, 8);
        Due.due("of two none, whatever sky", x.kite(-1, MAX), 0);
        Due.due("crossings", x.strings(0), 0);
        Due.due("LAYERS", x.strings(1), 0);
        Due.due("the first again", x.kite(3, 3), 1);
        Due.due("LAYERS", x.strings(1), 1);
    }

    private static void kiteTen() {
        Due.sentence("Promise 26", "NONE if .. there are ten.");
        SwallowsAir x = new SwallowsAir();
        for (int i = 0; i < 10; i++) {
            Due.due("kite", x.kite(i, 50 - i), i + 1);
        }
        Due.due("an eleventh", x.kite(99, 0), -1);
        Due.due("crossings", x.strings(0), 45);
        Due.due("LAYERS", x.strings(1), 10);
        Due.due("none then", x.kite(-1, 0), 0);
        Due.due("one again", x.kite(0, 0), 1);
    }

    private static void strings() {
        Due.sentence("Promise 27", "STRINGS what 0 crossings, 1 LAYERS. NONE for another what.");
        SwallowsAir x = new SwallowsAir();
        Due.due("of none", x.strings(0), 0);
        Due.due("of none", x.strings(1), 0);
        x.kite(1, 3);
        x.kite(2, 2);
        x.kite(3, 1);
        Due.due("strings(0)", x.strings(0), 3);
        Due.due("strings(1)", x.strings(1), 3);
        for (int what : NOT_0_1) {
            Due.due("strings(" + what + ")", x.strings(what), -1);
        }
    }

    private static void way() {
        Due.sentence("Promise 28", "A way of SWALLOW 0 .. 5 to an eave 0 .. 5: true; false if one can't be.");
        int[][] can = {{0, 0, 0}, {5, 0, 0}, {0, 5, 0}, {0, 0, 99}, {5, 5, 99}};
        int[][] cant = {{-1, 0, 0}, {6, 0, 0}, {0, -1, 0}, {0, 6, 0}, {0, 0, -1}, {0, 0, 100}, {MIN, 0, 0}, {MAX, 0, 0},
            {0, MIN, 0}, {0, MAX, 0}, {0, 0, MIN}, {0, 0, MAX}};
        SwallowsAir x = new SwallowsAir();
        for (int[] w : can) {
            Due.due("way(" + w[0] + ", " + w[1] + ", " + w[2] + ")", x.way(w[0], w[1], w[2]), true);
        }
        Due.due("0 and 5 go elsewhere", x.eaves(0), 0);
        for (int i = 0; i < 36; i++) {
            x.way(i / 6, i % 6, 10);
        }
        for (int[] w : cant) {
            Due.due("way(" + w[0] + ", " + w[1] + ", " + w[2] + ")", x.way(w[0], w[1], w[2]), false);
            Due.due("the sum stays", x.eaves(0), 60);
        }
    }

    private static void eaves() {
        Due.sentence("Promise 29", "EAVES what 0 the sum, 10 + s the eave (0 .. 5). NONE for another what.");
        SwallowsAir x = new SwallowsAir();
        for (int s = 0; s < 6; s++) {
            for (int e = 0; e < 6; e++) {
                x.way(s, e, s + e == 5 ? 1 + s : 99);
            }
        }
        Due.due("eaves(0)", x.eaves(0), 21);
        for (int s = 0; s < 6; s++) {
            Due.due("eaves(10 + " + s + ")", x.eaves(10 + s), 5 - s);
        }
        for (int what : new int[] {-1, 1, 2, 9, 16, 17, MIN, MAX}) {
            Due.due("eaves(" + what + ")", x.eaves(what), -1);
        }
    }

    private static void cites() {
        Due.sentence("Promise 30", "CITES what 0 FOUNDS, 1 ORDER.");
        SwallowsAir x = new SwallowsAir();
        Due.due("nothing follows", x.cites(0, 0), 0);
        Due.due("the first", x.cites(0, 1), 0);
        Due.due("the last", x.cites(15, 1), 15);
        Due.lines(x, 3, "case 0 follows 15;", 1);
        Due.due("FOUNDS of 15", x.cites(15, 0), 1);
        Due.due("FOUNDS of 0", x.cites(0, 0), 0);
        Due.due("ORDER of 15", x.cites(15, 1), 14);
        Due.due("ORDER of 0", x.cites(0, 1), 15);
        Due.sentence("Promise 30", "NONE if there is no such case, a round (1), or another what.");
        for (int n : new int[] {-1, 16, MIN, MAX}) {
            Due.due("cites(" + n + ", 0)", x.cites(n, 0), -1);
            Due.due("cites(" + n + ", 1)", x.cites(n, 1), -1);
        }
        for (int what : NOT_0_1) {
            Due.due("cites(0, " + what + ")", x.cites(0, what), -1);
        }
        Due.lines(x, 3, "case 0 follows 15; case 15 follows 0;", 2);
        for (int n = 0; n < 16; n++) {
            Due.due("ORDER of " + n + " by a round", x.cites(n, 1), -1);
            Due.due("FOUNDS of " + n + " by a round", x.cites(n, 0), n == 0 || n == 15 ? 0x8001 : 0);
        }
        Due.lines(x, 3, "case 3 follows 4;", 1);
        Due.due("no round any more", x.cites(0, 1), 0);
        Due.due("FOUNDS of 0 any more", x.cites(0, 0), 0);
        Due.due("FOUNDS of 15 any more", x.cites(15, 0), 0);
    }

    private static void voice() {
        Due.sentence("Promise 31", "The ROOFS that a voice reaches from one (a set; its own always): true; false if one can't be.");
        SwallowsAir x = new SwallowsAir();
        for (int roof : new int[] {-1, 10, MIN, MAX}) {
            Due.due("voice(" + roof + ", 1023)", x.voice(roof, 1023), false);
        }
        for (int roofs : new int[] {-1, 1024, 1025, MIN, MAX}) {
            Due.due("voice(0, " + roofs + ")", x.voice(0, roofs), false);
        }
        Due.due("nothing was told", x.asked(0), 10);
        Due.due("voice(0, 1023)", x.voice(0, 1023), true);
        Due.due("asked(0)", x.asked(0), 1);
        Due.due("voice(0, 0)", x.voice(0, 0), true);
        Due.due("its own always", x.asked(0), 10);
        Due.due("its own always", x.asked(1), 1023);
        Due.due("voice(9, 511)", x.voice(9, 511), true);
        Due.due("its own too", x.asked(1), 512);
    }

    private static void asked() {
        Due.sentence("Promise 32", "ASKED what 0 how many, 1 the set. NONE for another what.");
        SwallowsAir x = new SwallowsAir();
        x.voice(4, 0x1f0);
        x.voice(2, 0x20f);
        Due.due("asked(0)", x.asked(0), 2);
        Due.due("asked(1)", x.asked(1), 0x14);
        for (int what : NOT_0_1) {
            Due.due("asked(" + what + ")", x.asked(what), -1);
        }
    }

    private static void upright() {
        Due.sentence("Promise 33", "UPRIGHT what 0 how many HEIGHTS, 1 whether. NONE if there is none such, or another what.");
        SwallowsAir x = Airs.winter();
        Due.due("upright(1, 0)", x.upright(1, 0), 8);
        Due.due("upright(1, 1)", x.upright(1, 1), 1);
        for (int what : NOT_0_1) {
            Due.due("upright(1, " + what + ")", x.upright(1, what), -1);
        }
        for (int person : new int[] {-1, 2, 10, MIN, MAX}) {
            Due.due("upright(" + person + ", 0)", x.upright(person, 0), -1);
            Due.due("upright(" + person + ", 1)", x.upright(person, 1), -1);
        }
        Due.due("without people", new SwallowsAir().upright(0, 0), -1);
    }

    private static void point() {
        Due.sentence("Promise 34", "A point for ARBITER: how many; NONE if one can't be");
        int[][] can = {{0, 0, 0, 0}, {999, 0, 0, 9}, {0, 999, 0, 9}, {0, 0, 999, 9}, {999, 999, 999, 9}};
        int[][] cant = {{-2, 0, 0, 0}, {1000, 0, 0, 0}, {0, -1, 0, 0}, {0, 1000, 0, 0}, {0, 0, -1, 0}, {0, 0, 1000, 0},
            {0, 0, 0, -1}, {0, 0, 0, 10}, {MIN, 0, 0, 0}, {MAX, 0, 0, 0}, {0, MIN, 0, 0}, {0, MAX, 0, 0},
            {0, 0, MIN, 0}, {0, 0, MAX, 0}, {0, 0, 0, MIN}, {0, 0, 0, MAX}};
        SwallowsAir x = new SwallowsAir();
        for (int i = 0; i < can.length; i++) {
            for (int[] w : cant) {
                Due.due("point", x.point(w[0], w[1], w[2], w[3]), -1);
            }
            Due.due("point " + i, x.point(can[i][0], can[i][1], can[i][2], can[i][3]), i + 1);
        }
        Due.due("the sum", x.arbiter(0), 9 * 999);
        Due.due("to the first", x.arbiter(1), 4);
    }

    private static void pointNone() {
        Due.sentence("Promise 34", "(one NONE: none is then)");
        SwallowsAir x = new SwallowsAir();
        Due.due("of none none", x.point(-1, 0, 0, 0), 0);
        x.point(5, 5, 5, 5);
        Due.due("of one none, whatever else is told", x.point(-1, MIN, MAX, 77), 0);
        Due.due("the sum", x.arbiter(0), 0);
        Due.due("to the first", x.arbiter(1), 0);
        Due.due("the first again", x.point(1, 1, 1, 1), 1);
        Due.due("the sum", x.arbiter(0), 1);
    }

    private static void pointEight() {
        Due.sentence("Promise 34", "NONE if .. there are eight.");
        SwallowsAir x = new SwallowsAir();
        for (int i = 0; i < 8; i++) {
            Due.due("point", x.point(999, 0, 999, 9), i + 1);
        }
        Due.due("a ninth", x.point(1, 1, 1, 1), -1);
        Due.due("the most that can be", x.arbiter(0), 8 * 9 * 999);
        Due.due("to the first", x.arbiter(1), 8);
        Due.due("none then", x.point(-1, 0, 0, 0), 0);
        Due.due("one again", x.point(0, 0, 0, 0), 1);
    }

    private static void arbiter() {
        Due.sentence("Promise 35", "ARBITER what 0 the sum, 1 how many go to the first. NONE for another what.");
        SwallowsAir x = new SwallowsAir();
        Due.due("of none", x.arbiter(0), 0);
        Due.due("of none", x.arbiter(1), 0);
        x.point(10, 20, 11, 2);
        x.point(10, 20, 19, 3);
        Due.due("arbiter(0)", x.arbiter(0), 80);
        Due.due("arbiter(1)", x.arbiter(1), 1);
        for (int what : NOT_0_1) {
            Due.due("arbiter(" + what + ")", x.arbiter(what), -1);
        }
    }

    private static void ball() {
        Due.sentence("Promise 36", "BALL what 0 the highest, 1 the DAY.");
        int[][] rows = {{1, 1, 1, 3}, {1, 9, 1, 2}, {40, 1, 820, 81}, {40, 9, 110, 10}, {9, 9, 9, 3}, {10, 9, 11, 4}};
        SwallowsAir x = new SwallowsAir();
        for (int[] w : rows) {
            Due.due("ball(" + w[0] + ", " + w[1] + ", 0)", x.ball(w[0], w[1], 0), w[2]);
            Due.due("ball(" + w[0] + ", " + w[1] + ", 1)", x.ball(w[0], w[1], 1), w[3]);
        }
        Due.sentence("Promise 36", "NONE if one can't be, or another what.");
        for (int what = 0; what < 2; what++) {
            for (int v : new int[] {0, -1, 41, MIN, MAX}) {
                Due.due("ball(" + v + ", 1, " + what + ")", x.ball(v, 1, what), -1);
            }
            for (int g : new int[] {0, -1, 10, MIN, MAX}) {
                Due.due("ball(1, " + g + ", " + what + ")", x.ball(1, g, what), -1);
            }
        }
        for (int what : NOT_0_1) {
            Due.due("ball(1, 1, " + what + ")", x.ball(1, 1, what), -1);
        }
    }

    private static void game() {
        Due.sentence("Promise 37", "GAME what 0 the PERSON, 1 by how much. NONE if who begins loses, or for another what.");
        SwallowsAir x = Airs.winter();
        for (int what = 0; what < 2; what++) {
            Due.due("without people", new SwallowsAir().game(what), -1);
            Due.due("all at 0", x.game(what), -1);
        }
        x.set(3, 1, 1);
        Due.due("game(0)", x.game(0), 1);
        Due.due("game(1)", x.game(1), 1);
        for (int what : NOT_0_1) {
            Due.due("game(" + what + ")", x.game(what), -1);
        }
        x.set(3, 0, 1);
        for (int what = 0; what < 2; what++) {
            Due.due("both at 1", x.game(what), -1);
        }
    }

    private static void leaps() {
        Due.sentence("Promise 38", "LEAPS of n; NONE if one can't be.");
        SwallowsAir x = new SwallowsAir();
        int[] ways = {0, 1, 2, 4, 7, 13, 24, 44, 81, 149};
        for (int n = 1; n <= 9; n++) {
            Due.due("leaps(" + n + ")", x.leaps(n), ways[n]);
        }
        for (int n : new int[] {0, -1, 10, MIN, MAX}) {
            Due.due("leaps(" + n + ")", x.leaps(n), -1);
        }
    }
}
