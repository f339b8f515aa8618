/** "Terms", part 4 but UNDO and THE IMAGE, sentence by sentence: what is found in thought. */
public final class PartFourEdgeTest {
    public static void main(String[] args) {
        nothingStays();
        noDraws();
        fiveHundredAtLeast();
        wouldInWinter();
        goesDays();
        goesAcrossSeasons();
        goesBeyondTheLastDay();
        steps();
        bothEnds();
        fewestSteps();
        inHowManyWays();
        mostCells();
        wideOfOne();
        leastCell();
        shareADay();
        threeShareADay();
        mostWorth();
        leastSetOfWishes();
        cross();
        layers();
        waysAtFirst();
        leastSum();
        firstWays();
        eaveAlone();
        founds();
        itselfByARound();
        order();
        firstOrder();
        roundNone();
        voicesAtFirst();
        fewestRoofs();
        leastSetOfRoofs();
        fromHeight0();
        tallLessStoops();
        nearer();
        sumByWeights();
        ballRises();
        ballHighest();
        ballBack();
        gameMoves();
        gameOfThree();
        gameLeastPerson();
        gameFewest();
        leapsOf3();
        leapsOnto();
        Due.close("PartFourEdgeTest");
    }

    private static void nothingStays() {
        Due.sentence("Terms 4", "IN THOUGHT (nothing of it stays)");
        SwallowsAir x = Airs.summer();
        Airs.law(x, "leave 700; rent 3; fine 4;");
        Due.lines(x, 1, "on 101 person 0 kite at 3 0 0 for 9;", 1);
        x.take(0, 0, 2, 0, 9);
        x.take(0, 0, 5, 0, 2);
        String before = Airs.seen(x);
        for (int what = 0; what < 4; what++) {
            x.goes(60, what);
            x.goes(2, what);
        }
        x.would(0, 0, 7, 0, 9);
        x.through(0, 97, 1);
        x.wide(1);
        x.game(0);
        x.leaps(9);
        x.upright(0, 1);
        x.ball(9, 1, 1);
        Due.same("thoughts", Airs.seen(x), before);
        Due.due("the next number", x.take(0, 0, 9, 0, 1), 2);
        x.undo();
        Due.due("days(1) as without thought", x.days(1), 1);
        Due.due("heard by a DRAW, not by thought", x.look(8), 0);
    }

    private static void noDraws() {
        Due.sentence("Terms 4", "no DRAWS");
        for (int draw : new int[] {0, 999}) {
            SwallowsAir x = Airs.summer();
            Airs.law(x, "leave 999; rent 3;");
            Due.lines(x, 1, "on 100 person 0 kite at 3 0 0 for 9;", 1);
            x.state(Airs.stateFor(draw));
            Due.due("RENT in thought", x.goes(1, 0), 3);
            Due.due("STATE", x.look(8), Airs.stateFor(draw));
            x.days(1);
            Due.due("RENT", x.look(4), draw == 0 ? 3 : 0);
        }
    }

    private static void fiveHundredAtLeast() {
        Due.sentence("Terms 4", "leave is given, if leave is 500 at least");
        for (int leave : new int[] {0, 499, 500, 501, 1000}) {
            SwallowsAir x = Airs.summer();
            Airs.law(x, "leave " + leave + "; rent 3;");
            Due.lines(x, 1, "on 100 person 0 kite at 3 0 0 for 9;", 1);
            Due.due("uses by leave " + leave, x.goes(1, 1), leave >= 500 ? 1 : 0);
            Due.due("RENT by leave " + leave, x.goes(1, 0), leave >= 500 ? 3 : 0);
            x.set(5, 0, 270);
            Due.lines(x, 1, "on 270 person 0 kite at 3 0 0 for 9;", 1);
            Due.due("in WINTER whatever leave", x.goes(1, 1), 1);
            Due.due("free", x.goes(1, 0), 0);
        }
    }

    private static void wouldInWinter() {
        Due.sentence("Terms 4", "WOULD of a PERSON, KIND, ROOF, from, to, DAYS: leave (in WINTER too).");
        for (int day : new int[] {89, 90, 269, 270}) {
            SwallowsAir x = Airs.winter();
            x.set(5, 0, day);
            Due.due("untold on " + day, x.would(0, 0, 2, 3, 1), 520);
            Airs.law(x, "leave 1 + summer * 5 + used * 10;");
            int summer = day == 90 || day == 269 ? 1 : 0;
            Due.due("told on " + day, x.would(0, 0, 2, 3, 1), 1 + 5 * summer);
            Airs.law(x, "leave kind*100+roof*10+high;");
            Due.due("of KIND, ROOF, to", x.would(0, 5, 4, 36, 1), 546);
            Airs.law(x, "leave days*10+tall;");
            Due.due("of DAYS, PERSON", x.would(1, 5, 4, 36, 29), 294);
        }
    }

    private static void goesDays() {
        Due.sentence("Terms 4", "GOES for n (1 .. 60) DAYS: RENT, how many uses, FINED of all, MARKS of all then.");
        SwallowsAir x = Airs.summer();
        x.take(0, 0, 5, 0, 1);
        x.take(0, 0, 6, 0, 30);
        Due.due("one DAY", x.goes(1, 1), 1);
        Due.due("29 DAYS", x.goes(29, 1), 1);
        Due.due("30 DAYS", x.goes(30, 1), 0);
        Due.lines(x, 1, "on 159 person 0 kite at 0 0 0 for 2;", 1);
        Due.due("59 DAYS", x.goes(59, 1), 0);
        Due.due("60 DAYS", x.goes(60, 1), 1);
        x.take(0, 0, 2, 0, 4);
        x.take(1, 0, 8, 0, 3);
        x.take(1, 0, 2, 11, 2);
        Due.due("FINED of all", x.goes(1, 2), 20 + 7);
        Due.due("MARKS of all", x.goes(1, 3), 3);
        Due.due("RENT", x.goes(1, 0), 27);
        x.days(1);
        Due.due("what there was is in it", x.goes(1, 2), 27);
        Due.due("what there was is in it", x.goes(1, 3), 3);
        Due.due("what there was is in it", x.goes(1, 0), 27);
    }

    private static void goesAcrossSeasons() {
        Due.sentence("Terms 4", "GOES for n .. DAYS: .. then (from season to season)");
        SwallowsAir x = Airs.winter();
        x.set(1, 0, 1000);
        x.set(5, 0, 88);
        x.take(0, 0, 2, 0, 30);
        Due.due("to the last of WINTER", x.goes(2, 2), 0);
        Due.due("to the first of SUMMER, with 28 DAYS yet", x.goes(3, 2), 140);
        x.set(5, 0, 269);
        Due.due("MARKS behind 269", x.goes(1, 3), 1);
        Due.due("MARKS behind 270", x.goes(2, 3), 0);
        Due.due("FINED behind 270", x.goes(2, 2), 150);
    }

    private static void goesBeyondTheLastDay() {
        Due.sentence("Terms 4", "GOES for n (1 .. 60) DAYS (on the last DAY too)");
        SwallowsAir x = Airs.winter();
        x.set(5, 0, 9999);
        x.take(0, 0, 2, 0, 30);
        Due.due("one DAY", x.goes(1, 1), 1);
        Due.due("29 DAYS", x.goes(29, 1), 1);
        Due.due("30 DAYS", x.goes(30, 1), 0);
        Due.due("60 DAYS", x.goes(60, 1), 0);
        Due.due("61 DAYS", x.goes(61, 1), -1);
        Due.due("DAY", x.look(6), 9999);
    }

    private static void steps() {
        Due.sentence("Terms 4", "steps up, down, to a side by CELLS not used");
        SwallowsAir x = Airs.winter();
        int[] beside = {43, 45, 34, 54};
        int[] across = {33, 35, 53, 55};
        for (int i = 0; i < 4; i++) {
            Due.due("one step to " + beside[i], x.through(44, beside[i], 0), 1);
            Due.due("two steps to " + across[i], x.through(44, across[i], 0), 2);
            Due.due("two ways to " + across[i], x.through(44, across[i], 1), 2);
        }
        x.take(0, 0, 4, 33, 30);
        Due.due("one way by the side", x.through(44, 53, 1), 1);
        x.take(0, 0, 5, 44, 30);
        Due.due("no step across", x.through(44, 53, 0), 6);
        Due.due("HEIGHT 7 is not beside HEIGHT 0 of the next", x.through(87, 90, 0), 8);
    }

    private static void bothEnds() {
        Due.sentence("Terms 4", "(both ends not used)");
        SwallowsAir x = Airs.winter();
        x.take(0, 0, 4, 44, 30);
        Due.due("from it", x.through(44, 45, 0), -1);
        Due.due("to it", x.through(45, 44, 0), -1);
        Due.due("from it to it", x.through(44, 44, 0), -1);
        Due.due("beside it", x.through(43, 45, 0), 4);
        x.ends(0);
        Due.due("from it", x.through(44, 45, 0), 1);
    }

    private static void fewestSteps() {
        Due.sentence("Terms 4", "the fewest steps");
        SwallowsAir x = Airs.winter();
        for (int roof = 1; roof < 9; roof += 2) {
            x.take(0, 0, roof, roof % 4 == 1 ? 6 : 17, 30);
        }
        Due.due("up and down and up and down", x.through(0, 80, 0), 8 + 4 * 7);
        Due.due("in one way where walls part", x.through(0, 20, 1), 1);
        x.ends(1);
        Due.due("with one wall less", x.through(0, 40, 0), 4 + 14);
    }

    private static void inHowManyWays() {
        Due.sentence("Terms 4", "in how many ways so few");
        SwallowsAir x = Airs.winter();
        Due.due("around nothing", x.through(33, 55, 1), 6);
        x.take(0, 0, 4, 44, 30);
        Due.due("around one", x.through(33, 55, 1), 2);
        Due.due("so few only", x.through(43, 45, 1), 2);
        Due.due("steps", x.through(43, 45, 0), 4);
        Due.due("none: one way", x.through(43, 43, 1), 1);
    }

    private static void mostCells() {
        Due.sentence("Terms 4", "WIDE: the most CELLS not used that are a rectangle");
        SwallowsAir x = Airs.winter();
        x.take(0, 0, 0, 0, 30);
        Due.due("beside a CELL below", x.wide(0), 72);
        Due.due("least CELL", x.wide(1), 10);
        x.take(0, 0, 9, 77, 30);
        Due.due("beside two", x.wide(0), 64);
        Due.due("least CELL", x.wide(1), 10);
        for (int roof = 1; roof < 9; roof++) {
            x.take(0, 0, roof, 33, 30);
        }
        /* heights 4 to 7 of 0 .. 8 are 36; 4 to 6 of 0 .. 9 are 30; 0 to 2 of 1 .. 9 are 27 */
        Due.due("across", x.wide(0), 36);
        Due.due("least CELL", x.wide(1), 4);
    }

    private static void wideOfOne() {
        Due.sentence("Terms 4", "WIDE: .. that are a rectangle (of one HEIGHT, of one ROOF)");
        for (int height : new int[] {0, 3, 7}) {
            SwallowsAir x = Airs.winter();
            for (int roof = 0; roof < 5; roof++) {
                for (int i = 0; i < 2; i++) {
                    if (height > 0 && i == 0) {
                        x.take(0, 0, roof, height - 1, 30);
                    }
                    if (height < 7 && i == 1) {
                        x.take(0, 0, roof, 10 * (height + 1) + 7, 30);
                    }
                }
            }
            for (int roof = 5; roof < 10; roof++) {
                x.take(0, 0, roof, 7, 30);
            }
            Due.due("one HEIGHT", x.wide(0), 5);
            Due.due("least CELL", x.wide(1), height);
            x.ends(x.use(x.look(2) - 1, 0));
            Due.due("one ROOF is more", x.wide(0), 8);
            Due.due("least CELL", x.wide(1), 90);
        }
        SwallowsAir x = Airs.winter();
        for (int roof = 0; roof < 10; roof++) {
            x.take(0, 0, roof, 17, 30);
        }
        Due.due("the lowest of all", x.wide(0), 10);
        Due.due("least CELL", x.wide(1), 0);
        x.ends(4);
        Due.due("ten are more than eight", x.wide(0), 10);
        Due.due("least CELL", x.wide(1), 0);
    }

    private static void leastCell() {
        Due.sentence("Terms 4", "its least CELL (of several rectangles that with the least ROOF, then least HEIGHT, then least last ROOF)");
        SwallowsAir x = Airs.winter();
        x.take(0, 0, 4, 7, 30);
        x.take(0, 0, 5, 7, 30);
        Due.due("alike on both sides", x.wide(0), 32);
        Due.due("the least ROOF", x.wide(1), 0);
        x = Airs.winter();
        for (int roof = 0; roof < 10; roof++) {
            x.take(0, 0, roof, roof == 0 ? 7 : 34, 30);
        }
        /* heights 0 .. 2 and 5 .. 7 of 1 .. 9: 27 each */
        Due.due("alike below and above", x.wide(0), 27);
        Due.due("the least HEIGHT", x.wide(1), 10);
        x.take(0, 0, 1, 0, 30);
        Due.due("above it is more", x.wide(1), 15);
        x = Airs.winter();
        for (int roof = 3; roof < 10; roof++) {
            x.take(0, 0, roof, 7, 30);
        }
        x.take(0, 0, 0, 33, 30);
        x.take(0, 0, 2, 77, 30);
        /* 4 .. 6 of 0 .. 2 are 9; 1 has 8, 1 .. 2 of 0 .. 6 have 14 */
        Due.due("1 and 2 up to 6", x.wide(0), 14);
        Due.due("least CELL", x.wide(1), 10);
    }

    private static void shareADay() {
        Due.sentence("Terms 4", "a set of which no two share a DAY");
        int[][] rows = {{0, 4, 5, 9, 1}, {0, 5, 5, 9, 0}, {0, 6, 5, 9, 0}, {5, 9, 0, 4, 1}, {5, 9, 0, 5, 0}, {0, 9, 3, 4, 0},
            {3, 4, 0, 9, 0}, {7, 7, 7, 7, 0}, {7, 7, 8, 8, 1}, {0, 99, 99, 99, 0}, {0, 98, 99, 99, 1}};
        for (int[] w : rows) {
            SwallowsAir x = new SwallowsAir();
            x.wish(w[0], w[1], 2);
            x.wish(w[2], w[3], 3);
            String of = java.util.Arrays.toString(w);
            Due.due("worth of " + of, x.beside(0), w[4] == 1 ? 5 : 3);
            Due.due("set of " + of, x.beside(1), w[4] == 1 ? 3 : 2);
        }
    }

    private static void threeShareADay() {
        Due.sentence("Terms 4", "a set of which no two share a DAY (of three that share one)");
        int[][] worths = {{5, 5, 1}, {5, 1, 5}, {1, 5, 5}, {3, 2, 4}};
        int[] best = {5, 5, 5, 4};
        int[] sets = {1, 1, 2, 4};
        SwallowsAir x = new SwallowsAir();
        for (int i = 0; i < 4; i++) {
            x.wish(-1, 0, 0);
            x.wish(0, 5, worths[i][0]);
            x.wish(5, 9, worths[i][1]);
            x.wish(3, 7, worths[i][2]);
            Due.due("worth", x.beside(0), best[i]);
            Due.due("set", x.beside(1), sets[i]);
        }
        x.wish(-1, 0, 0);
        x.wish(0, 5, 3);
        x.wish(6, 9, 2);
        x.wish(10, 11, 4);
        Due.due("others then, that share none: worth", x.beside(0), 9);
        Due.due("set", x.beside(1), 7);
    }

    private static void mostWorth() {
        Due.sentence("Terms 4", "the most worth");
        SwallowsAir x = new SwallowsAir();
        x.wish(0, 9, 10);
        x.wish(0, 4, 5);
        x.wish(5, 9, 6);
        Due.due("two are worth more", x.beside(0), 11);
        Due.due("the two", x.beside(1), 6);
        x = new SwallowsAir();
        x.wish(0, 9, 12);
        x.wish(0, 4, 5);
        x.wish(5, 9, 6);
        Due.due("one is worth more", x.beside(0), 12);
        Due.due("the one", x.beside(1), 1);
        x = new SwallowsAir();
        for (int i = 0; i < 8; i++) {
            x.wish(i, i, 99);
        }
        Due.due("the most that can be", x.beside(0), 792);
    }

    private static void leastSetOfWishes() {
        Due.sentence("Terms 4", "the set (of several the least)");
        SwallowsAir x = new SwallowsAir();
        x.wish(1, 1, 0);
        Due.due("worth nothing", x.beside(1), 0);
        x.wish(2, 2, 5);
        Due.due("without what is worth nothing", x.beside(1), 2);
        x.wish(2, 2, 5);
        Due.due("the least of two alike", x.beside(1), 2);
        x = new SwallowsAir();
        x.wish(0, 9, 10);
        x.wish(0, 4, 5);
        x.wish(5, 9, 5);
        Due.due("1 is less than 6", x.beside(1), 1);
        x = new SwallowsAir();
        x.wish(0, 4, 5);
        x.wish(5, 9, 5);
        x.wish(0, 9, 10);
        Due.due("3 is less than 4", x.beside(1), 3);
    }

    private static void cross() {
        Due.sentence("Terms 4", "two cross, if one's hand is less and its sky greater: how many crossings");
        int[][] rows = {{1, 2, 2, 1, 1}, {2, 1, 1, 2, 1}, {1, 1, 2, 2, 0}, {2, 2, 1, 1, 0}, {1, 2, 1, 1, 0}, {1, 1, 1, 2, 0},
            {1, 1, 2, 1, 0}, {2, 1, 1, 1, 0}, {1, 1, 1, 1, 0}, {0, 99, 99, 0, 1}, {0, 0, 99, 99, 0}};
        for (int[] w : rows) {
            SwallowsAir x = new SwallowsAir();
            x.kite(w[0], w[1]);
            x.kite(w[2], w[3]);
            String of = java.util.Arrays.toString(w);
            Due.due("crossings of " + of, x.strings(0), w[4]);
            Due.due("LAYERS of " + of, x.strings(1), 1 + w[4]);
        }
    }

    private static void layers() {
        Due.sentence("Terms 4", "LAYERS: into how few sets of kites of which none cross.");
        SwallowsAir x = new SwallowsAir();
        Due.due("of none", x.strings(1), 0);
        x.kite(5, 5);
        Due.due("of one", x.strings(1), 1);
        x.kite(1, 1);
        x.kite(9, 9);
        Due.due("of three that do not cross", x.strings(1), 1);
        x.kite(4, 6);
        Due.due("one crosses", x.strings(1), 2);
        x.kite(0, 2);
        x.kite(8, 10);
        Due.due("three pairs", x.strings(0), 3);
        Due.due("in two all the same", x.strings(1), 2);
        x.kite(3, 7);
        Due.due("three cross one another", x.strings(1), 3);
        x = new SwallowsAir();
        for (int i = 9; i >= 0; i--) {
            x.kite(i, 9 - i);
        }
        Due.due("ten cross one another, whatever their order", x.strings(1), 10);
        x = new SwallowsAir();
        for (int i = 0; i < 10; i++) {
            x.kite(i * 3 % 10, 9 - i * 3 % 10);
        }
        Due.due("ten cross one another, whatever their order", x.strings(1), 10);
        Due.due("crossings", x.strings(0), 45);
    }

    private static void waysAtFirst() {
        Due.sentence("Terms 4", "EAVES: told ways of SWALLOWS 0 .. 5 to eaves 0 .. 5 (0 .. 99; 0 at first)");
        SwallowsAir x = new SwallowsAir();
        Due.due("the sum", x.eaves(0), 0);
        for (int s = 0; s < 6; s++) {
            Due.due("the first", x.eaves(10 + s), s);
        }
        for (int i = 0; i < 36; i++) {
            x.way(i / 6, i % 6, 99);
        }
        Due.due("the greatest sum", x.eaves(0), 594);
        Due.due("the last one's", x.eaves(15), 5);
        x.way(5, 5, 98);
        Due.due("one less", x.eaves(0), 593);
    }

    private static void leastSum() {
        Due.sentence("Terms 4", "one for each: the least sum");
        SwallowsAir x = new SwallowsAir();
        for (int i = 0; i < 36; i++) {
            x.way(i / 6, i % 6, i % 6 == 0 ? 0 : 10);
        }
        Due.due("one alone has eave 0", x.eaves(0), 50);
        x.way(3, 0, 0);
        x.way(0, 0, 5);
        x.way(1, 0, 5);
        x.way(2, 0, 5);
        x.way(4, 0, 5);
        x.way(5, 0, 5);
        Due.due("the sum", x.eaves(0), 50);
        Due.due("it is 3 who has it", x.eaves(13), 0);
        /* Nearest first is not least: 0 would take eave 0 for 1, and 1 would pay 99. */
        x = new SwallowsAir();
        for (int i = 0; i < 36; i++) {
            x.way(i / 6, i % 6, i / 6 == i % 6 && i / 6 > 1 ? 0 : 99);
        }
        x.way(0, 0, 1);
        x.way(0, 1, 2);
        x.way(1, 0, 3);
        Due.due("the sum", x.eaves(0), 5);
        Due.due("0 has 1", x.eaves(10), 1);
        Due.due("1 has 0", x.eaves(11), 0);
    }

    private static void firstWays() {
        Due.sentence("Terms 4", "the eave of SWALLOW s (of several ways the first)");
        SwallowsAir x = new SwallowsAir();
        x.way(0, 0, 1);
        Due.due("the least sum yet", x.eaves(0), 0);
        int[] first = {1, 0, 2, 3, 4, 5};
        for (int s = 0; s < 6; s++) {
            Due.due("eave of " + s, x.eaves(10 + s), first[s]);
        }
        x.way(0, 1, 1);
        x.way(5, 0, 1);
        int[] then = {2, 0, 1, 3, 4, 5};
        for (int s = 0; s < 6; s++) {
            Due.due("eave of " + s, x.eaves(10 + s), then[s]);
        }
        for (int e = 0; e < 5; e++) {
            x.way(0, e, 9);
        }
        x.way(1, 0, 9);
        int[] last = {5, 1, 0, 2, 3, 4};
        for (int s = 0; s < 6; s++) {
            Due.due("eave of " + s, x.eaves(10 + s), last[s]);
        }
    }

    private static void eaveAlone() {
        Due.sentence("Terms 4", "the eave of SWALLOW s (asked before the sum, and when ways were told anew)");
        for (int s = 0; s < 6; s++) {
            SwallowsAir x = new SwallowsAir();
            for (int i = 0; i < 36; i++) {
                x.way(i / 6, i % 6, i / 6 + i % 6 == 5 ? 3 : 9);
            }
            Due.due("eave of " + s, x.eaves(10 + s), 5 - s);
            for (int i = 0; i < 36; i++) {
                x.way(i / 6, i % 6, i / 6 == i % 6 ? 3 : 9);
            }
            Due.due("eave of " + s + " then", x.eaves(10 + s), s);
        }
    }

    private static void founds() {
        Due.sentence("Terms 4", "CASE n FOUNDS: all that follow it, those that follow these, and so on (a set)");
        SwallowsAir x = new SwallowsAir();
        StringBuilder chain = new StringBuilder();
        for (int n = 0; n < 15; n++) {
            chain.append("case ").append(n).append(" follows ").append(n + 1).append(";");
        }
        Due.lines(x, 3, chain.toString(), 15);
        for (int n = 0; n < 16; n++) {
            Due.due("FOUNDS of " + n, x.cites(n, 0), (1 << n) - 1);
        }
        Due.lines(x, 3, "case 1 follows 2; case 3 follows 2; case 5 follows 3;", 3);
        Due.due("two, and one behind", x.cites(2, 0), 0b101010);
        Due.due("what follows only", x.cites(3, 0), 0b100000);
        Due.due("not what it follows", x.cites(5, 0), 0);
    }

    private static void itselfByARound() {
        Due.sentence("Terms 4", "(.. itself only by a round)");
        SwallowsAir x = new SwallowsAir();
        Due.lines(x, 3, "case 1 follows 2; case 2 follows 1; case 3 follows 1;", 3);
        Due.due("1 by a round", x.cites(1, 0), 0b1110);
        Due.due("2 by a round", x.cites(2, 0), 0b1110);
        Due.due("3 has none", x.cites(3, 0), 0);
        StringBuilder round = new StringBuilder();
        for (int n = 0; n < 16; n++) {
            round.append("case ").append(n).append(" follows ").append((n + 1) % 16).append(";");
        }
        Due.lines(x, 3, round.toString(), 16);
        for (int n = 0; n < 16; n++) {
            Due.due("all by a round of 16", x.cites(n, 0), 0xffff);
        }
    }

    private static void order() {
        Due.sentence("Terms 4", "ORDER: an order in which each comes behind all it follows: the place of case n");
        SwallowsAir x = new SwallowsAir();
        StringBuilder chain = new StringBuilder();
        for (int n = 0; n < 15; n++) {
            chain.append("case ").append(n).append(" follows ").append(n + 1).append(";");
        }
        Due.lines(x, 3, chain.toString(), 15);
        for (int n = 0; n < 16; n++) {
            Due.due("place of " + n, x.cites(n, 1), 15 - n);
        }
        Due.lines(x, 3, "case 0 follows 14; case 0 follows 15; case 0 follows 1;", 3);
        Due.due("behind all", x.cites(0, 1), 15);
        Due.due("ahead", x.cites(1, 1), 0);
    }

    private static void firstOrder() {
        Due.sentence("Terms 4", "(of several orders the first; all 16 cases)");
        SwallowsAir x = new SwallowsAir();
        for (int n = 0; n < 16; n++) {
            Due.due("untold " + n, x.cites(n, 1), n);
        }
        Due.lines(x, 3, "case 2 follows 9; case 4 follows 2;", 2);
        int[] order = {0, 1, 3, 5, 6, 7, 8, 9, 2, 4, 10, 11, 12, 13, 14, 15};
        for (int place = 0; place < 16; place++) {
            Due.due("place of " + order[place], x.cites(order[place], 1), place);
        }
    }

    private static void roundNone() {
        Due.sentence("Terms 4", "(.. a round: none)");
        SwallowsAir x = new SwallowsAir();
        Due.lines(x, 3, "case 14 follows 15; case 13 follows 14;", 2);
        Due.due("no round", x.cites(0, 1), 0);
        Due.lines(x, 3, "case 14 follows 15; case 13 follows 14; case 15 follows 13;", 3);
        for (int n = 0; n < 16; n++) {
            Due.due("a round: " + n, x.cites(n, 1), -1);
        }
    }

    private static void voicesAtFirst() {
        Due.sentence("Terms 4", "ASKED: told roofs that a voice reaches (sets of 10 for each ROOF; its own at first)");
        SwallowsAir x = new SwallowsAir();
        Due.due("how many", x.asked(0), 10);
        Due.due("all", x.asked(1), 1023);
        x.voice(0, 512);
        Due.due("9 is reached from 0", x.asked(1), 511);
        Due.due("how many", x.asked(0), 9);
    }

    private static void fewestRoofs() {
        Due.sentence("Terms 4", "the fewest ROOFS to call from so that all are reached: how many");
        SwallowsAir x = new SwallowsAir();
        x.voice(0, 0b0000011111);
        x.voice(1, 0b0001111111);
        x.voice(9, 0b1111100000);
        Due.due("two", x.asked(0), 2);
        Due.due("the set", x.asked(1), 513);
        x.voice(0, 0b0000001111);
        Due.due("by another", x.asked(1), 514);
        x.voice(1, 0b0000001111);
        Due.due("three", x.asked(0), 3);
        x.voice(5, 1023);
        Due.due("one", x.asked(0), 1);
        Due.due("that one", x.asked(1), 32);
    }

    private static void leastSetOfRoofs() {
        Due.sentence("Terms 4", "the set (of several the least)");
        SwallowsAir x = new SwallowsAir();
        x.voice(9, 1023);
        Due.due("one alone", x.asked(1), 512);
        x.voice(4, 1023);
        Due.due("the least of two", x.asked(1), 16);
        x.voice(4, 0);
        x.voice(9, 0b1111100000);
        x.voice(8, 0b1111100000);
        x.voice(0, 0b0000011111);
        x.voice(1, 0b0000011111);
        Due.due("the least of four", x.asked(1), 257);
        /* Fewer are better than less: {9} is 512, {0, 8} is 257. */
        x.voice(9, 1023);
        Due.due("fewer before less", x.asked(1), 512);
    }

    private static void fromHeight0() {
        Due.sentence("Terms 4", "UPRIGHT of a PERSON: on his ROOF the most HEIGHTS free side by side from HEIGHT 0 up");
        for (int used = 0; used < 8; used++) {
            SwallowsAir x = Airs.winter();
            x.take(1, 0, 5, 11 * used, 30);
            Due.due("below " + used, x.upright(1, 0), used);
            Due.due("on another ROOF", x.upright(0, 0), 8);
        }
        SwallowsAir x = Airs.winter();
        Due.due("all are free", x.upright(1, 0), 8);
        x.take(1, 0, 5, 22, 30);
        x.take(1, 0, 5, 55, 30);
        Due.due("up to the lowest", x.upright(1, 0), 2);
        x.ends(0);
        Due.due("up to the next", x.upright(1, 0), 5);
        x.take(1, 0, 5, 0, 30);
        Due.due("more are free above, none from 0", x.upright(1, 0), 0);
    }

    private static void tallLessStoops() {
        Due.sentence("Terms 4", "whether TALL less STOOPS (0 at least) is no more than that (1, 0).");
        for (int free = 0; free < 8; free++) {
            for (int tall = 0; tall < 8; tall++) {
                SwallowsAir x = Airs.winter();
                x.take(1, 0, 5, 11 * free, 30);
                x.set(0, 1, tall);
                Due.due("TALL " + tall + " below " + free, x.upright(1, 1), tall <= free ? 1 : 0);
                x.set(3, 1, 3);
                Due.due("less 3", x.upright(1, 1), tall - 3 <= free ? 1 : 0);
                x.set(3, 1, 7);
                Due.due("less 7: 0 at least", x.upright(1, 1), 1);
            }
        }
    }

    private static void nearer() {
        Due.sentence("Terms 4", "for each point the one nearer to a told mark (as near: the first one's)");
        int[][] rows = {{10, 20, 15, 1}, {10, 20, 14, 1}, {10, 20, 16, 0}, {20, 10, 15, 1}, {20, 10, 14, 0}, {20, 10, 16, 1},
            {10, 10, 0, 1}, {0, 999, 499, 1}, {0, 999, 500, 0}, {999, 0, 499, 0}, {999, 0, 500, 1}, {5, 6, 0, 1},
            {6, 5, 0, 0}, {5, 6, 999, 0}, {6, 5, 999, 1}};
        for (int[] w : rows) {
            SwallowsAir x = new SwallowsAir();
            x.point(w[0], w[1], w[2], 1);
            String of = java.util.Arrays.toString(w);
            Due.due("found of " + of, x.arbiter(0), w[3] == 1 ? w[0] : w[1]);
            Due.due("to the first of " + of, x.arbiter(1), w[3]);
        }
    }

    private static void sumByWeights() {
        Due.sentence("Terms 4", "the sum by weights; how many points go to the first.");
        SwallowsAir x = new SwallowsAir();
        x.point(10, 0, 10, 0);
        Due.due("by weight 0", x.arbiter(0), 0);
        Due.due("it goes to the first all the same", x.arbiter(1), 1);
        x.point(10, 0, 10, 9);
        x.point(7, 3, 3, 2);
        Due.due("by weights 9 and 2", x.arbiter(0), 96);
        Due.due("to the first", x.arbiter(1), 2);
    }

    private static void ballRises() {
        Due.sentence("Terms 4", "on DAY 1 it rises v, on each next one g less than on the one ahead (falls, below 0)");
        SwallowsAir x = new SwallowsAir();
        /* 10, 17, 21, 22, 20, 15, 7, -4 */
        Due.due("the highest", x.ball(10, 3, 0), 22);
        Due.due("the DAY", x.ball(10, 3, 1), 8);
        /* 5, 6, 3, -4 */
        Due.due("the highest", x.ball(5, 4, 0), 6);
        Due.due("the DAY", x.ball(5, 4, 1), 4);
    }

    private static void ballHighest() {
        Due.sentence("Terms 4", "the highest it is behind a DAY");
        SwallowsAir x = new SwallowsAir();
        Due.due("behind DAY 1", x.ball(3, 4, 0), 3);
        Due.due("behind DAY 1 and 2", x.ball(4, 4, 0), 4);
        Due.due("behind DAY 2", x.ball(5, 4, 0), 6);
        Due.due("the greatest of all", x.ball(40, 1, 0), 820);
    }

    private static void ballBack() {
        Due.sentence("Terms 4", "the first DAY behind which it is at 0 or lower.");
        SwallowsAir x = new SwallowsAir();
        /* 2, 3, 3, 2, 0 */
        Due.due("at 0", x.ball(2, 1, 1), 5);
        /* 4, 4, 0 */
        Due.due("at 0", x.ball(4, 4, 1), 3);
        /* 1, -8 */
        Due.due("lower", x.ball(1, 9, 1), 2);
        /* 3, 3 + 2 .. */
        Due.due("at 0 by 2 * v + 1", x.ball(40, 1, 1), 81);
        /* 2, 2, 0 and 3, 4, 3, 0 */
        Due.due("at 0", x.ball(2, 2, 1), 3);
        Due.due("at 0", x.ball(3, 2, 1), 4);
    }

    private static SwallowsAir stooping(int... stoops) {
        SwallowsAir x = new SwallowsAir();
        for (int p = 0; p < stoops.length; p++) {
            x.person(0, 0, 0);
            x.set(3, p, stoops[p]);
        }
        return x;
    }

    private static void gameMoves() {
        Due.sentence("Terms 4", "two by turns lower STOOPS of one PERSON by 1, or to its half, downwards; who can lower none loses");
        int[] by = {-1, 1, -1, 1, 2, 3, -1, 1};
        for (int stoops = 0; stoops < 8; stoops++) {
            SwallowsAir x = stooping(stoops);
            Due.due("who of " + stoops, x.game(0), by[stoops] == -1 ? -1 : 0);
            Due.due("by how much of " + stoops, x.game(1), by[stoops]);
        }
        for (int stoops = 0; stoops < 8; stoops++) {
            Due.due("two alike at " + stoops, stooping(stoops, stoops).game(0), -1);
        }
        Due.due("nobody", stooping().game(0), -1);
    }

    private static int then(int stoops, int move) {
        return move == 0 ? stoops - 1 : stoops / 2;
    }

    /** Of every three that stoop: tried out to the end, from the least sum up. */
    private static void gameOfThree() {
        Due.sentence("Terms 4", "GAME: .. the PERSON (of several the least), by how much (the fewest) who begins well lowers (of all threes)");
        boolean[] wins = new boolean[512];
        for (int sum = 0; sum <= 21; sum++) {
            for (int all = 0; all < 512; all++) {
                int[] stoops = {all & 7, all >> 3 & 7, all >> 6};
                if (stoops[0] + stoops[1] + stoops[2] == sum) {
                    int who = -1;
                    int by = -1;
                    for (int p = 0; p < 3; p++) {
                        for (int move = 0; move < 2 && who == -1; move++) {
                            int left = then(stoops[p], move);
                            if (stoops[p] > 0 && !wins[all - (stoops[p] - left << 3 * p)]) {
                                who = p;
                                by = stoops[p] - left;
                            }
                        }
                    }
                    wins[all] = who >= 0;
                    SwallowsAir x = stooping(stoops);
                    String of = java.util.Arrays.toString(stoops);
                    Due.due("who of " + of, x.game(0), who);
                    Due.due("by how much of " + of, x.game(1), by);
                }
            }
        }
    }

    private static void gameLeastPerson() {
        Due.sentence("Terms 4", "the PERSON (of several the least)");
        Due.due("1, 1, 1: any", stooping(1, 1, 1).game(0), 0);
        Due.due("0, 1, 1, 1: any but the first", stooping(0, 1, 1, 1).game(0), 1);
        Due.due("2, 1: either", stooping(2, 1).game(0), 0);
        Due.due("3, 1: the first", stooping(3, 1).game(0), 0);
        Due.due("1, 3: the second", stooping(1, 3).game(0), 1);
        Due.due("the last of ten", stooping(0, 0, 0, 0, 0, 0, 0, 0, 0, 3).game(0), 9);
    }

    private static void gameFewest() {
        Due.sentence("Terms 4", "by how much (the fewest) who begins well lowers.");
        Due.due("1 by 1, which is to its half too", stooping(1).game(1), 1);
        Due.due("3 by 1, not by 2", stooping(3).game(1), 1);
        Due.due("3 beside 1 by 2", stooping(3, 1).game(1), 2);
        Due.due("4 to its half", stooping(4).game(1), 2);
        Due.due("5 to its half", stooping(5).game(1), 3);
        Due.due("7 by 1", stooping(7).game(1), 1);
        Due.due("7 to its half beside 3", stooping(7, 3).game(1), 4);
    }

    private static void leapsOf3() {
        Due.sentence("Terms 4", "LEAPS of n (1 .. 9): ROOFS from 0 to n by leaps of 1, 2 or 3");
        SwallowsAir x = Airs.winter();
        Due.due("3 at once too", x.leaps(3), 4);
        Due.due("4 not at once", x.leaps(4), 7);
        x.take(0, 0, 1, 0, 30);
        x.take(0, 0, 2, 0, 30);
        Due.due("over two", x.leaps(3), 1);
        x.take(0, 0, 3, 0, 30);
        Due.due("over three", x.leaps(4), 0);
        Due.due("none any more", x.leaps(9), 0);
    }

    private static void leapsOnto() {
        Due.sentence("Terms 4", "never onto one where a use has HEIGHT 0: in how many ways.");
        SwallowsAir x = Airs.winter();
        x.take(0, 0, 2, 17, 30);
        Due.due("above HEIGHT 0 only", x.leaps(3), 4);
        x.take(0, 0, 2, 0, 30);
        Due.due("HEIGHT 0", x.leaps(3), 2);
        Due.due("onto it", x.leaps(2), 0);
        Due.due("short of it", x.leaps(1), 1);
        x.take(0, 0, 0, 7, 30);
        Due.due("from 0 whatever is there", x.leaps(3), 2);
        x.take(0, 0, 9, 3, 30);
        Due.due("onto the last", x.leaps(9), 0);
    }
}
