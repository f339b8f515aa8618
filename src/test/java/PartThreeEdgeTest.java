/** "Terms", part 3, sentence by sentence: to ask, to take, a day, the book. */
public final class PartThreeEdgeTest {
    public static void main(String[] args) {
        cellIsUsed();
        cellsNotUsed();
        fewerThanSixteen();
        winterIsFree();
        drawBelow();
        leaveAtItsEnds();
        purseIsLess();
        elseNothingBegins();
        takeWithoutLeave();
        petitionsForTheDay();
        petitionsLineByLine();
        petitionsWhatCanBe();
        petitionsBeforeFines();
        finesInSummerAlone();
        finesByNumber();
        finesWithoutLeave();
        eyesBy3();
        seesByLease();
        leastSwallow();
        finePaid();
        stoopsAtMost7();
        line3NoLine4();
        daysOneLess();
        endsBehindFines();
        firstDayOfWinter();
        forAll();
        dayOneMore();
        bookLines();
        book150();
        book150InADay();
        byHand();
        Due.close("PartThreeEdgeTest");
    }

    private static void line(SwallowsAir x, int i, int... want) {
        for (int what = 0; what < 4; what++) {
            Due.due("book(" + i + ", " + what + ")", x.book(i, what), want[what]);
        }
    }

    private static void cellIsUsed() {
        Due.sentence("Terms 3", "A CELL is used, if a use has it (ROOF, HEIGHTS from .. to).");
        SwallowsAir x = Airs.winter();
        x.take(0, 0, 4, 25, 30);
        int[][] want = {{31, 0}, {32, 0}, {41, 0}, {42, -1}, {43, -1}, {44, -1}, {45, -1}, {46, 0}, {52, 0}, {55, 0}};
        for (int[] w : want) {
            Due.due("through(" + w[0] + ", " + w[0] + ", 0)", x.through(w[0], w[0], 0), w[1]);
        }
        Due.due("used CELLS", x.look(3), 4);
        x.ends(0);
        Due.due("not any more", x.through(43, 43, 0), 0);
        Due.due("used CELLS", x.look(3), 0);
    }

    private static void cellsNotUsed() {
        Due.sentence("Terms 3", "To ASK for a use that can be (its CELLS not used)");
        int[] heights = {1, 2, 22, 12, 34, 33, 44, 45, 55, 56, 57, 66, 67, 7, 25};
        boolean[] can = {true, false, false, false, false, false, false, false, false, false, false, true, true, false,
            false};
        for (int i = 0; i < heights.length; i++) {
            for (int roof = 3; roof <= 5; roof++) {
                SwallowsAir x = Airs.winter();
                x.take(0, 0, 4, 25, 30);
                int due = can[i] || roof != 4 ? 1 : -2;
                int leave = 800 - 60 * (heights[i] % 10);
                Due.due("would " + heights[i], x.would(1, 0, roof, heights[i], 1), due == 1 ? leave : -2 - leave);
                Due.due("ask for " + heights[i] + " above " + roof, x.ask(1, 0, roof, heights[i], 1), due);
                x = Airs.winter();
                x.ask(0, 0, 4, 25, 30);
                Due.due("take " + heights[i] + " above " + roof, x.take(1, 0, roof, heights[i], 1), due);
            }
        }
    }

    private static void fewerThanSixteen() {
        Due.sentence("Terms 3", "To ASK for a use that can be (.. fewer than 16 uses)");
        for (int uses = 14; uses <= 16; uses++) {
            for (int season = 0; season < 2; season++) {
                SwallowsAir x = Airs.winter();
                Airs.law(x, "leave 1000;");
                Airs.takes(x, uses, 30);
                x.set(5, 0, season * 100);
                Due.due("ask beside " + uses, x.ask(0, 0, 9, 77, 1), uses < 16 ? uses : -2);
                Due.due("draws", x.look(8), season == 1 && uses < 16 ? 1013904223 : 0);
            }
        }
    }

    private static void winterIsFree() {
        Due.sentence("Terms 3", "in WINTER it begins with LEAVE, free. In SUMMER: leave is asked");
        int[] days = {89, 90, 269, 270};
        for (int day : days) {
            boolean winter = day == 89 || day == 270;
            SwallowsAir x = Airs.winter();
            Airs.law(x, "leave 0;");
            x.set(5, 0, day);
            Due.due("without hope on " + day, x.ask(0, 0, 0, 0, 1), winter ? 0 : -1);
            x = Airs.winter();
            Airs.law(x, "leave 1000; rent 7;");
            x.set(5, 0, day);
            Due.due("with leave on " + day, x.ask(0, 0, 0, 0, 1), 0);
            Due.due("LEAVE", x.use(0, 7), 1);
            Due.due("PURSE", x.of(0, 1), winter ? 100 : 93);
            Due.due("RENT", x.look(4), winter ? 0 : 7);
            Due.due("a DRAW", x.look(8), winter ? 0 : 1013904223);
            line(x, 0, day, 0, 0, winter ? 0 : 7);
        }
    }

    private static void drawBelow() {
        Due.sentence("Terms 3", "a DRAW of 1000: below it leave is given");
        for (int leave : new int[] {1, 2, 499, 500, 501, 998, 999}) {
            for (int draw = leave - 1; draw <= leave + 1; draw++) {
                SwallowsAir x = Airs.summer();
                Airs.law(x, "leave " + leave + ";");
                x.state(Airs.stateFor(draw));
                /* The draw behind 999 is 0. */
                boolean given = draw % 1000 < leave;
                Due.due("leave " + leave + ", draw " + draw, x.ask(0, 0, 0, 0, 1), given ? 0 : -1);
            }
        }
    }

    private static void leaveAtItsEnds() {
        Due.sentence("Terms 3", "a DRAW of 1000: below it (leave 0 is never given, leave 1000 always)");
        for (int draw : new int[] {0, 1, 998, 999}) {
            SwallowsAir x = Airs.summer();
            Airs.law(x, "leave 0;");
            x.state(Airs.stateFor(draw));
            Due.due("leave 0, draw " + draw, x.ask(0, 0, 0, 0, 1), -1);
            Airs.law(x, "leave 1000;");
            x.state(Airs.stateFor(draw));
            Due.due("leave 1000, draw " + draw, x.ask(0, 0, 0, 0, 1), 0);
        }
    }

    private static void purseIsLess() {
        Due.sentence("Terms 3", "the PERSON pays it, or PURSE, if that is less (PURSE less, RENT more)");
        int[][] rows = {{7, 0, 0}, {7, 6, 6}, {7, 7, 7}, {7, 8, 7}, {7, 999, 7}, {0, 1, 0}, {0, 0, 0}, {9999, 999, 999}};
        for (int[] w : rows) {
            SwallowsAir x = Airs.summer();
            x.set(1, 1, w[0]);
            Airs.law(x, "leave 1000; rent " + w[1] + ";");
            Due.due("it begins", x.ask(1, 0, 0, 0, 1), 0);
            Due.due("with LEAVE", x.use(0, 7), 1);
            Due.due("PURSE " + w[0] + " less rent " + w[1], x.of(1, 1), w[0] - w[2]);
            Due.due("RENT", x.look(4), w[2]);
            Due.due("another's PURSE", x.of(0, 1), 100);
            Due.due("FINED", x.of(1, 4), 0);
            line(x, 0, 100, 0, 0, w[2]);
        }
    }

    private static void elseNothingBegins() {
        Due.sentence("Terms 3", "Else: nothing begins.");
        SwallowsAir x = Airs.summer();
        Airs.law(x, "leave 300; rent 50;");
        x.state(Airs.stateFor(300));
        Due.due("refused", x.ask(1, 0, 0, 0, 1), -1);
        Due.due("uses", x.look(2), 0);
        Due.due("used CELLS", x.look(3), 0);
        Due.due("PURSE", x.of(1, 1), 7);
        Due.due("RENT", x.look(4), 0);
        Due.due("the DRAW stays", x.look(8), 300 << 8);
        line(x, 0, 100, 1, 1, 300);
    }

    private static void takeWithoutLeave() {
        Due.sentence("Terms 3", "To TAKE a use without asking (it can be): it begins without LEAVE.");
        for (int day : new int[] {0, 89, 90, 269, 270}) {
            SwallowsAir x = Airs.winter();
            Airs.law(x, "leave 1000; rent 50;");
            x.set(5, 0, day);
            Due.due("take", x.take(1, 0, 0, 0, 1), 0);
            Due.due("LEAVE", x.use(0, 7), 0);
            Due.due("no DRAW", x.look(8), 0);
            Due.due("PURSE", x.of(1, 1), 7);
            line(x, 0, day, 2, 0, 1);
        }
    }

    private static void petitionsForTheDay() {
        Due.sentence("Terms 3", "(a) line by line of PETITIONS for it: he ASKS");
        SwallowsAir x = Airs.winter();
        x.set(5, 0, 8);
        Due.lines(x, 1, "on 8 person 0 kite at 0 0 0 for 30;on 9 person 1 kite at 1 0 0 for 30;on 10 person 0 kite at 2 0 0"
                + " for 30;on 7 person 0 kite at 3 0 0 for 30;", 4);
        Due.due("not before a day goes by", x.look(2), 0);
        x.days(1);
        Due.due("that of 8", x.look(2), 1);
        Due.due("its ROOF", x.use(0, 3), 0);
        line(x, 0, 8, 0, 0, 0);
        x.days(1);
        Due.due("that of 9 too", x.look(2), 2);
        Due.due("its PERSON", x.use(1, 1), 1);
        line(x, 1, 9, 0, 1, 0);
        x.days(1);
        Due.due("that of 10 too", x.look(2), 3);
        x.days(1);
        Due.due("no other", x.look(2), 3);
        x.set(5, 0, 9999);
        Due.lines(x, 1, "on 9999 person 0 kite at 5 0 0 for 2;", 1);
        Due.due("on 9999 in thought", x.goes(1, 1), 4);
    }

    private static void petitionsLineByLine() {
        Due.sentence("Terms 3", "(a) line by line of PETITIONS (each with a DRAW of its own)");
        SwallowsAir x = Airs.summer();
        Due.lines(x, 1, "on 100 person 1 kite at 1 0 0 for 30;on 100 person 0 kite at 0 0 0 for 30;", 2);
        Airs.law(x, "leave 400 + roof * 200; rent used + 1;");
        x.state(Airs.stateFor(599));
        int then = 1664525 * (599 << 8) + 1013904223;
        int draw = (then >>> 8) % 1000;
        x.days(1);
        line(x, 0, 100, 0, 0, 1);
        line(x, 1, 100, draw < 400 ? 0 : 1, draw < 400 ? 1 : 0, draw < 400 ? 2 : 400);
        Due.due("STATE", x.look(8), then);
    }

    private static void petitionsWhatCanBe() {
        Due.sentence("Terms 3", "(a) .. he ASKS (what can be).");
        SwallowsAir x = Airs.summer();
        Airs.law(x, "leave 1000; rent 1;");
        Due.lines(x, 1, "on 100 person 0 kite at 0 2 4 for 30;on 100 person 1 kite at 0 4 6 for 30;"
                + "on 100 person 1 kite at 0 5 6 for 30;", 3);
        x.days(1);
        Due.due("uses", x.look(2), 2);
        Due.due("the one between can't be: no line", x.look(7), 2);
        Due.due("and no DRAW", x.look(8), 1664525 * 1013904223 + 1013904223);
        Due.due("the third can", x.use(1, 4), 5);
        x = Airs.winter();
        Airs.takes(x, 15, 30);
        Due.lines(x, 1, "on 0 person 0 kite at 0 7 7 for 30;on 0 person 1 kite at 1 7 7 for 30;", 2);
        x.days(1);
        Due.due("the sixteenth", x.look(2), 16);
        Due.due("is of person 0", x.use(15, 1), 0);
        Due.due("no line for another", x.look(7), 16);
    }

    /** The petition comes first: where the air is taken without leave it can't be, though that use is fined then. */
    private static void petitionsBeforeFines() {
        Due.sentence("Terms 3", "A DAY: (a) .. (b) .. (in that order)");
        SwallowsAir x = Airs.summer();
        Airs.law(x, "leave 1000;");
        x.take(1, 0, 2, 0, 30);
        Due.lines(x, 1, "on 100 person 0 kite at 2 0 0 for 30;", 1);
        Due.due("fined", x.days(1), 1);
        Due.due("no petition was heard", x.look(2), 0);
        x = Airs.summer();
        Airs.law(x, "leave 1000; rent 3; fine used * 10;");
        x.set(1, 0, 100);
        x.take(0, 0, 2, 0, 30);
        Due.lines(x, 1, "on 100 person 0 kite at 2 1 1 for 30;", 1);
        Due.due("fined", x.days(1), 1);
        line(x, 1, 100, 0, 1, 3);
        line(x, 2, 100, 3, 0, 20);
        Due.due("one with LEAVE is not fined", x.use(0, 0), 1);
    }

    private static void finesInSummerAlone() {
        Due.sentence("Terms 3", "(b) In SUMMER");
        for (int day : new int[] {0, 88, 89, 90, 91, 268, 269, 270, 271, 449, 450, 629, 630, 9989, 9990}) {
            SwallowsAir x = Airs.winter();
            x.take(0, 0, 2, 0, 30);
            x.set(5, 0, day);
            boolean summer = day % 360 >= 90 && day % 360 < 270;
            Due.due("days(1) on " + day, x.days(1), summer ? 1 : 0);
            Due.due("uses then", x.look(2), summer ? 0 : 1);
        }
    }

    private static void finesByNumber() {
        Due.sentence("Terms 3", "(b) .. use by use (by number)");
        SwallowsAir x = Airs.summer();
        Airs.law(x, "fine used * 100 + roof + fined * 0;");
        x.set(1, 0, 1000);
        x.take(0, 0, 3, 0, 9);
        x.take(0, 0, 1, 0, 9);
        x.take(0, 0, 2, 0, 9);
        Due.due("fined", x.days(1), 3);
        line(x, 3, 100, 3, 0, 303);
        line(x, 4, 100, 3, 1, 201);
        line(x, 5, 100, 3, 2, 102);
        Due.due("PURSE", x.of(0, 1), 1000 - 606);
        Due.due("STOOPS", x.of(0, 3), 3);
    }

    private static void finesWithoutLeave() {
        Due.sentence("Terms 3", "(b) .. without LEAVE");
        SwallowsAir x = Airs.winter();
        x.ask(0, 0, 2, 0, 30);
        x.take(0, 0, 2, 11, 30);
        x.ask(0, 0, 2, 22, 30);
        x.set(5, 0, 100);
        Due.due("days(1)", x.days(1), 1);
        Due.due("uses then", x.look(2), 2);
        Due.due("the first", x.use(0, 0), 0);
        Due.due("the third", x.use(1, 0), 2);
        Due.due("days(20)", x.days(20), 0);
    }

    private static void eyesBy3() {
        Due.sentence("Terms 3", "it nests at .. a ROOF that is EYES by 3 (downwards) places from it at most");
        for (int eyes = 1; eyes <= 9; eyes++) {
            int reach = eyes < 3 ? 0 : eyes < 6 ? 1 : eyes < 9 ? 2 : 3;
            for (int nest : new int[] {0, 4, 9}) {
                for (int roof = 0; roof < 10; roof++) {
                    SwallowsAir x = new SwallowsAir();
                    x.person(0, 0, 0);
                    x.swallow(nest, eyes);
                    x.set(5, 0, 100);
                    x.take(0, 0, roof, 0, 2);
                    boolean sees = roof - nest <= reach && nest - roof <= reach;
                    Due.due("bird", x.bird(0, 10 + roof), sees ? 1 : 0);
                    Due.due("EYES " + eyes + " at " + nest + " see " + roof, x.days(1), sees ? 1 : 0);
                }
            }
        }
    }

    private static void seesByLease() {
        Due.sentence("Terms 3", "or has by LEASE, a ROOF that is EYES by 3 (downwards) places from it at most");
        for (int eyes : new int[] {2, 3, 8, 9}) {
            int reach = eyes / 3;
            for (int leased : new int[] {0, 5, 9}) {
                SwallowsAir x = new SwallowsAir();
                x.swallow(2, 1);
                x.swallow(2, eyes);
                Due.lines(x, 2, "turn " + leased + " to 1;", 1);
                for (int roof = 0; roof < 10; roof++) {
                    boolean sees = Math.abs(roof - leased) <= reach || Math.abs(roof - 2) <= reach;
                    Due.due("EYES " + eyes + " lease " + leased + " see " + roof, x.bird(1, 10 + roof), sees ? 1 : 0);
                    Due.due("the other sees its nest alone", x.bird(0, 10 + roof), roof == 2 ? 1 : 0);
                }
            }
        }
        SwallowsAir x = Airs.summer();
        Due.lines(x, 2, "turn 5 to 1;", 1);
        x.take(0, 0, 5, 0, 9);
        x.take(0, 0, 4, 0, 9);
        x.take(0, 0, 6, 0, 9);
        Due.due("fined by LEASE", x.days(1), 1);
        Due.due("MARKS", x.bird(1, 2), 1);
        Due.due("the next ones are not seen", x.look(2), 2);
    }

    private static void leastSwallow() {
        Due.sentence("Terms 3", "the least such one has one MARK more");
        SwallowsAir x = new SwallowsAir();
        x.person(0, 0, 0);
        x.swallow(9, 2);
        x.swallow(4, 3);
        x.swallow(5, 9);
        x.swallow(5, 1);
        x.set(5, 0, 100);
        x.take(0, 0, 5, 0, 9);
        x.take(0, 0, 4, 0, 9);
        x.take(0, 0, 6, 0, 9);
        x.take(0, 0, 9, 0, 9);
        Due.due("fined", x.days(1), 4);
        int[] marks = {1, 2, 1, 0};
        for (int s = 0; s < 4; s++) {
            Due.due("MARKS of " + s, x.bird(s, 2), marks[s]);
        }
    }

    private static void finePaid() {
        Due.sentence("Terms 3", "fine is asked, the PERSON pays it, or PURSE, if that is less: PURSE less, RENT more, FINED more by it");
        int[][] rows = {{7, 0, 0}, {7, 6, 6}, {7, 7, 7}, {7, 8, 7}, {7, 999, 7}, {0, 1, 0}, {9999, 999, 999}};
        for (int[] w : rows) {
            SwallowsAir x = Airs.summer();
            x.set(1, 1, w[0]);
            Airs.law(x, "fine " + w[1] + ";");
            x.take(1, 0, 2, 0, 9);
            Due.due("fined", x.days(1), 1);
            Due.due("PURSE " + w[0] + " less fine " + w[1], x.of(1, 1), w[0] - w[2]);
            Due.due("RENT", x.look(4), w[2]);
            Due.due("FINED", x.of(1, 4), w[2]);
            Due.due("STOOPS, though nothing was paid", x.of(1, 3), 1);
            Due.due("MARKS", x.bird(0, 2), 1);
            line(x, 1, 100, 3, 0, w[2]);
            Due.due("another's PURSE", x.of(0, 1), 100);
            Due.due("another's FINED", x.of(0, 4), 0);
            Due.due("another's STOOPS", x.of(0, 3), 0);
        }
    }

    private static void stoopsAtMost7() {
        Due.sentence("Terms 3", "his STOOPS is one more (7 at most)");
        for (int stoops = 0; stoops <= 7; stoops++) {
            SwallowsAir x = Airs.summer();
            x.set(3, 1, stoops);
            x.take(1, 0, 2, 0, 9);
            Due.due("fined", x.days(1), 1);
            Due.due("STOOPS behind " + stoops, x.of(1, 3), stoops < 7 ? stoops + 1 : 7);
        }
        SwallowsAir x = Airs.summer();
        x.set(3, 1, 6);
        x.take(1, 0, 2, 0, 9);
        x.take(1, 0, 2, 11, 9);
        Due.due("fined twice on a day", x.days(1), 2);
        Due.due("STOOPS", x.of(1, 3), 7);
    }

    private static void line3NoLine4() {
        Due.sentence("Terms 3", "the use ends (a line 3, no line 4)");
        SwallowsAir x = Airs.summer();
        x.take(0, 0, 2, 0, 1);
        Due.due("fined", x.days(1), 1);
        Due.due("uses", x.look(2), 0);
        Due.due("lines", x.look(7), 2);
        line(x, 1, 100, 3, 0, 5);
        Due.due("ends(0)", x.ends(0), false);
    }

    private static void daysOneLess() {
        Due.sentence("Terms 3", "(c) Of each use DAYS is one less; at 0 it ends.");
        SwallowsAir x = Airs.winter();
        x.ask(0, 0, 0, 0, 3);
        x.take(0, 0, 1, 0, 2);
        x.ask(0, 0, 2, 0, 1);
        int[][] yet = {{3, 2, 1}, {2, 1}, {1}, {}};
        for (int day = 0; day < 4; day++) {
            Due.due("uses on " + day, x.look(2), yet[day].length);
            for (int i = 0; i < yet[day].length; i++) {
                Due.due("DAYS yet", x.use(i, 6), yet[day][i]);
            }
            x.days(1);
        }
        line(x, 3, 0, 4, 2, 0);
        line(x, 4, 1, 4, 1, 0);
        line(x, 5, 2, 4, 0, 0);
        Due.due("lines", x.look(7), 6);
    }

    /** A use with one day yet that is not seen ends by (c); in both cases once only. */
    private static void endsBehindFines() {
        Due.sentence("Terms 3", "(b) .. (c) .. (in that order)");
        SwallowsAir x = Airs.summer();
        x.take(0, 0, 2, 0, 1);
        x.take(0, 0, 6, 0, 1);
        x.take(0, 0, 2, 11, 2);
        Due.due("fined", x.days(1), 2);
        line(x, 3, 100, 3, 0, 5);
        line(x, 4, 100, 3, 2, 10);
        line(x, 5, 100, 4, 1, 0);
        Due.due("lines", x.look(7), 6);
        Due.due("uses", x.look(2), 0);
    }

    private static void firstDayOfWinter() {
        Due.sentence("Terms 3", "(d) On the first DAY of WINTER (270 modulo 360) MARKS and STOOPS are 0");
        for (int day : new int[] {0, 269, 270, 271, 359, 360, 629, 630, 631, 9989, 9990, 9991}) {
            SwallowsAir x = Airs.summer();
            x.take(1, 0, 2, 0, 1);
            x.days(1);
            x.set(3, 1, 5);
            x.set(5, 0, day);
            x.days(1);
            boolean first = day % 360 == 270;
            Due.due("STOOPS behind " + day, x.of(1, 3), first ? 0 : 5);
            Due.due("MARKS behind " + day, x.bird(0, 2), first ? 0 : 1);
            Due.due("FINED stays", x.of(1, 4), 5);
        }
        SwallowsAir x = Airs.winter();
        x.set(5, 0, 269);
        x.take(1, 0, 2, 0, 1);
        Due.due("fined on the last day of SUMMER", x.days(1), 1);
        Due.due("STOOPS", x.of(1, 3), 1);
        Due.due("MARKS", x.bird(0, 2), 1);
        x.days(1);
        Due.due("STOOPS on the next", x.of(1, 3), 0);
        Due.due("MARKS on the next", x.bird(0, 2), 0);
    }

    private static void forAll() {
        Due.sentence("Terms 3", "(d) .. are 0 for all.");
        SwallowsAir x = new SwallowsAir();
        for (int i = 0; i < 10; i++) {
            x.person(0, 0, 0);
            x.swallow(i, 1);
            x.take(i, 0, i, 0, 30);
        }
        x.set(5, 0, 269);
        Due.due("all are fined", x.days(1), 10);
        for (int i = 0; i < 10; i++) {
            Due.due("STOOPS of " + i, x.of(i, 3), 1);
            Due.due("MARKS of " + i, x.bird(i, 2), 1);
        }
        x.days(1);
        for (int i = 0; i < 10; i++) {
            Due.due("STOOPS of " + i, x.of(i, 3), 0);
            Due.due("MARKS of " + i, x.bird(i, 2), 0);
        }
    }

    private static void dayOneMore() {
        Due.sentence("Terms 3", "(e) DAY is one more.");
        SwallowsAir x = new SwallowsAir();
        for (int day : new int[] {0, 89, 269, 270, 359, 9998}) {
            x.set(5, 0, day);
            x.days(1);
            Due.due("DAY behind " + day, x.look(6), day + 1);
        }
    }

    private static void bookLines() {
        Due.sentence("Terms 3", "THE BOOK: DAY, what (0 .. 4), which (the number of the use; 1: the PERSON), how much (0: rent paid; 1: leave; 2: the PERSON; 3: the fine paid; 4: 0).");
        SwallowsAir x = Airs.summer();
        x.take(1, 0, 5, 0, 30);
        x.ends(0);
        Airs.law(x, "leave 0;");
        x.ask(1, 0, 5, 0, 30);
        Airs.law(x, "leave 2000; rent 4; fine 2;");
        x.days(1);
        x.ask(1, 0, 5, 0, 1);
        x.take(1, 0, 2, 0, 30);
        x.days(1);
        int[][] want = {{100, 2, 0, 1}, {100, 4, 0, 0}, {100, 1, 1, 0}, {101, 0, 1, 4}, {101, 2, 2, 1}, {101, 3, 2, 2},
            {101, 4, 1, 0}};
        for (int i = 0; i < want.length; i++) {
            line(x, i, want[i]);
        }
        Due.due("lines", x.look(7), want.length);
        x = Airs.summer();
        Airs.law(x, "leave 0 - 5;");
        x.ask(1, 0, 5, 0, 30);
        line(x, 0, 100, 1, 1, 0);
    }

    private static void book150() {
        Due.sentence("Terms 3", "THE BOOK (150 lines; no more then)");
        SwallowsAir x = Airs.winter();
        for (int i = 0; i < 74; i++) {
            x.take(0, 0, 0, 0, 9);
            x.ends(i);
        }
        x.take(1, 0, 0, 0, 9);
        Due.due("149 lines", x.look(7), 149);
        line(x, 148, 0, 2, 74, 1);
        Due.due("book(149, 0)", x.book(149, 0), -1);
        x.ends(74);
        Due.due("150 lines", x.look(7), 150);
        line(x, 149, 0, 4, 74, 0);
        Due.due("the next use begins all the same", x.take(0, 0, 0, 0, 9), 75);
        Due.due("150 lines", x.look(7), 150);
        Due.due("book(150, 0)", x.book(150, 0), -1);
        line(x, 149, 0, 4, 74, 0);
        Due.due("and ends", x.ends(75), true);
        Due.due("and is asked for", x.ask(0, 0, 0, 0, 9), 76);
        x.set(5, 0, 100);
        x.take(0, 0, 2, 0, 9);
        Due.due("and is fined", x.days(1), 1);
        Due.due("150 lines", x.look(7), 150);
        line(x, 0, 0, 2, 0, 0);
        line(x, 149, 0, 4, 74, 0);
    }

    private static void book150InADay() {
        Due.sentence("Terms 3", "THE BOOK (150 lines; no more then), reached in the middle of a DAY");
        SwallowsAir x = Airs.winter();
        for (int i = 0; i < 72; i++) {
            x.take(0, 0, 0, 0, 9);
            x.ends(i);
        }
        x.take(0, 0, 0, 0, 1);
        x.take(0, 0, 1, 0, 1);
        x.take(0, 0, 2, 0, 1);
        Due.due("147 lines", x.look(7), 147);
        Due.lines(x, 1, "on 0 person 1 kite at 5 0 0 for 1;", 1);
        x.days(1);
        Due.due("150 lines", x.look(7), 150);
        line(x, 147, 0, 0, 75, 0);
        line(x, 148, 0, 4, 72, 0);
        line(x, 149, 0, 4, 73, 0);
        Due.due("all ended", x.look(2), 0);
        x.undo();
        Due.due("by undoing it has fewer", x.look(7), 147);
        x.take(1, 0, 9, 0, 9);
        line(x, 147, 0, 2, 75, 1);
    }

    private static void byHand() {
        Due.sentence("Terms 3", "By hand: to ASK, to TAKE, to END a use, to let a SWALLOW NEST elsewhere.");
        SwallowsAir x = Airs.summer();
        Due.due("take", x.take(0, 0, 5, 0, 9), 0);
        Due.due("not seen", x.days(1), 0);
        Due.due("nest", x.nest(1, 5), true);
        Due.due("no line for it", x.look(7), 1);
        Due.due("seen from there", x.days(1), 1);
        x.take(0, 0, 8, 0, 9);
        Due.due("not seen where it was", x.days(1), 0);
        Due.due("end", x.ends(1), true);
    }
}
