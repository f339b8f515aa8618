/** "What it is", the head of "Terms" and its part 1, sentence by sentence. */
public final class PartOneEdgeTest {
    private static final int MIN = Airs.MIN;
    private static final int MAX = Airs.MAX;

    public static void main(String[] args) {
        thoughtTo512();
        usesTo512();
        textsTo512();
        imagesTo512();
        quotients();
        stateAtFirst();
        draws();
        drawWraps();
        roofs();
        heights();
        cells();
        kinds();
        people();
        swallows();
        sixteenUses();
        numbers();
        oneOfSixteenEnds();
        toNotBelow();
        daysYet();
        leaves();
        rent();
        season();
        day();
        Due.close("PartOneEdgeTest");
    }

    private static final String CALLS = "An object is used for at most 512 calls after it has been made";

    private static void thoughtTo512() {
        Due.sentence("What it is", CALLS);
        SwallowsAir x = new SwallowsAir();
        for (int i = 0; i < 10; i++) {
            x.person(7, i, 9999);
            x.swallow(i, 9);
        }
        for (int i = 0; i < 16; i++) {
            x.take(i % 10, 0, i % 10, 11 * (i / 10), 30);
        }
        x.set(5, 0, 268);
        for (int call = 38; call < 512; call++) {
            int what = call % 4;
            Due.due("call " + call + " goes(60, " + what + ")", x.goes(60, what), new int[] {2400, 0, 2400, 0}[what]);
        }
        Due.due("call 512 days(60)", x.days(60), 16);
    }

    private static void usesTo512() {
        Due.sentence("What it is", CALLS);
        SwallowsAir x = new SwallowsAir();
        x.person(0, 0, 0);
        for (int call = 2; call <= 512; call++) {
            if (call % 2 == 0) {
                Due.due("call " + call + " take", x.take(0, 0, 0, 0, 1), call / 2 - 1);
            } else {
                Due.due("call " + call + " ends", x.ends(call / 2 - 1), true);
            }
        }
    }

    private static void textsTo512() {
        Due.sentence("What it is", CALLS);
        SwallowsAir x = new SwallowsAir();
        for (int call = 1; call <= 512; call++) {
            if (call % 21 == 0 || call == 512) {
                Due.due("call " + call + " text(0)", x.text(0), call == 512 ? 7 : 16);
            } else {
                int due = 20 * (call % 21);
                /* sixteen lines, and blanks behind them */
                Due.due("call " + call + " feed", call % 21 <= 16
                        ? x.feed(0x72656e74, 0x20312b31, 0x2b312b31, 0x2b312b31, 0x2b31313b)
                        : x.feed(0x20202020, 0x20202020, 0x20202020, 0x20202020, 0x20202020), due);
            }
        }
    }

    private static void imagesTo512() {
        Due.sentence("What it is", CALLS);
        SwallowsAir x = new SwallowsAir();
        for (int call = 1; call <= 512; call++) {
            switch (call % 4) {
                case 1 -> Due.due("call " + call + " image(true)", x.image(true), true);
                case 2 -> Due.due("call " + call + " days(60)", x.days(60), 0);
                case 3 -> Due.due("call " + call + " image(false)", x.image(false), true);
                default -> Due.due("call " + call + " look(6)", x.look(6), 0);
            }
        }
    }

    private static void quotients() {
        Due.sentence("Terms", "Quotients go downwards.");
        SwallowsAir x = new SwallowsAir();
        x.swallow(0, 1);
        for (int eyes = 1; eyes <= 9; eyes++) {
            x.set(4, 0, eyes);
            int reach = new int[] {0, 0, 0, 1, 1, 1, 2, 2, 2, 3}[eyes];
            Due.due("EYES " + eyes + " see as far", x.bird(0, 10 + reach), 1);
            Due.due("EYES " + eyes + " see no farther", x.bird(0, 11 + reach), 0);
        }
        x.person(0, 0, 0);
        x.set(3, 0, 5);
        Due.due("the half of 5 is 2", x.game(1), 3);
    }

    private static void stateAtFirst() {
        Due.sentence("Terms", "STATE of draws (an int, 0 at first)");
        SwallowsAir x = new SwallowsAir();
        Due.due("look(8)", x.look(8), 0);
        Due.due("state(MIN)", x.state(MIN), 0);
        Due.due("state(MAX)", x.state(MAX), MIN);
        Due.due("look(8)", x.look(8), MAX);
    }

    /** Whether a DRAW, from a STATE that it turns into v, is d: d is not below d, but below d + 1. */
    private static void drawIs(int v, int d) {
        for (int leave = d; leave <= d + 1; leave++) {
            SwallowsAir x = Airs.summer();
            Airs.law(x, "leave " + leave + ";");
            x.state(Airs.stateBefore(v));
            int got = x.ask(0, 0, 0, 0, 1);
            Due.due("of STATE " + v + " by leave " + leave, got, leave == d ? -1 : 0);
            Due.due("STATE then", x.look(8), v);
        }
    }

    private static void draws() {
        Due.sentence("Terms", "then it is its highest 24 bits (without sign) modulo m.");
        drawIs(0, 0);
        drawIs(255, 0);
        drawIs(256, 1);
        drawIs(511, 1);
        drawIs(999 << 8, 999);
        drawIs((1000 << 8) - 1, 999);
        drawIs(1000 << 8, 0);
        drawIs(1001 << 8, 1);
        drawIs(MAX, 607);
        drawIs(MIN, 608);
        drawIs(-1, 215);
        drawIs(-256, 215);
        drawIs(-257, 214);
    }

    private static void drawWraps() {
        Due.sentence("Terms", "a DRAW of m: it becomes 1664525 times itself + 1013904223 (ints, which wrap)");
        SwallowsAir x = Airs.summer();
        for (int v : new int[] {0, 1, -1, MAX, MIN, 1290, 1291}) {
            x.state(v);
            x.ask(0, 0, 0, 0, 1);
            long wide = 1664525L * v + 1013904223L;
            Due.due("behind " + v, x.look(8), (int) (wide & 0xffffffffL));
            x.ends(x.use(0, 0));
        }
    }

    private static void roofs() {
        Due.sentence("Terms 1", "ROOFS 0 .. 9 side by side");
        SwallowsAir x = Airs.winter();
        Due.due("person at 0", x.person(0, 0, 0), 2);
        Due.due("person at 9", x.person(0, 9, 0), 3);
        Due.due("person at -1", x.person(0, -1, 0), -1);
        Due.due("person at 10", x.person(0, 10, 0), -1);
        Due.due("use at 0", x.take(0, 0, 0, 0, 1), 0);
        Due.due("use at 9", x.take(0, 0, 9, 0, 1), 1);
        Due.due("use at -1", x.take(0, 0, -1, 0, 1), -2);
        Due.due("use at 10", x.take(0, 0, 10, 0, 1), -2);
        x.swallow(0, 3);
        Due.due("9 is not beside 0", x.bird(2, 19), 0);
        Due.due("no way round the end", x.through(1, 91, 0), 9);
    }

    private static void heights() {
        Due.sentence("Terms 1", "HEIGHTS 0 .. 7 above each: CELLS of air.");
        SwallowsAir x = Airs.winter();
        Due.due("all of one ROOF", x.take(0, 0, 0, 7, 1), 0);
        Due.due("used CELLS", x.look(3), 8);
        Due.due("to 8", x.take(0, 0, 1, 8, 1), -2);
        Due.due("from 8", x.take(0, 0, 1, 88, 1), -2);
        Due.due("the highest alone", x.take(0, 0, 1, 77, 1), 1);
        Due.due("CELL 27", x.through(27, 27, 0), 0);
        Due.due("CELL 28", x.through(28, 28, 0), -1);
        Due.due("from 7 to 7 by the side", x.through(27, 37, 0), 1);
    }

    private static void cells() {
        Due.sentence("Terms 1", "CELLS of air (80 of them)");
        SwallowsAir x = Airs.winter();
        for (int roof = 0; roof < 10; roof++) {
            Due.due("free yet", x.wide(0), 80 - 8 * roof);
            x.take(0, 0, roof, 7, 1);
        }
        Due.due("used CELLS", x.look(3), 80);
        Due.due("none free", x.wide(0), 0);
    }

    private static void kinds() {
        Due.sentence("Terms 1", "KINDS of uses 0 .. 5 (kite, washing, umbrella, bell, balloon, ball).");
        String[] names = {"kite", "washing", "umbrella", "bell", "balloon", "ball"};
        SwallowsAir x = Airs.winter();
        for (int kind = 0; kind < 6; kind++) {
            Due.lines(x, 1, "on " + kind + " person 0 " + names[kind] + " at " + kind + " 0 0 for 30;", 1);
            x.days(1);
            Due.due("a " + names[kind], x.use(kind, 2), kind);
        }
        Due.due("KIND -1", x.take(0, -1, 9, 0, 1), -2);
        Due.due("KIND 0", x.take(0, 0, 9, 0, 1), 6);
        Due.due("KIND 5", x.take(0, 5, 9, 11, 1), 7);
        Due.due("KIND 6", x.take(0, 6, 9, 22, 1), -2);
    }

    private static void people() {
        Due.sentence("Terms 1", "PEOPLE 0 .. 9 as they come: TALL 0 .. 7, ROOF, PURSE 0 .. 9999; FINED (0 at first), STOOPS 0 .. 7 (0 at first).");
        SwallowsAir x = new SwallowsAir();
        for (int p = 0; p < 10; p++) {
            Due.due("person", x.person(p % 8, 9 - p, 9999 - p), p);
        }
        Due.due("an eleventh", x.person(0, 0, 0), -1);
        for (int p = 0; p < 10; p++) {
            int[] want = {p % 8, 9999 - p, 9 - p, 0, 0};
            for (int what = 0; what < 5; what++) {
                Due.due("of(" + p + ", " + what + ")", x.of(p, what), want[what]);
            }
            Due.due("a use of his", x.take(p, 0, p, 0, 1), p);
        }
        Due.due("a use of the eleventh", x.take(10, 0, 0, 11, 1), -2);
        Due.due("STOOPS 7", x.set(3, 9, 7), true);
        Due.due("STOOPS 8", x.set(3, 9, 8), false);
        Due.due("STOOPS 0", x.set(3, 9, 0), true);
        Due.due("STOOPS -1", x.set(3, 9, -1), false);
    }

    private static void swallows() {
        Due.sentence("Terms 1", "SWALLOWS 0 .. 9 as they come: NEST at a ROOF, EYES 1 .. 9; MARKS (how many, 0 at first).");
        SwallowsAir x = new SwallowsAir();
        for (int s = 0; s < 10; s++) {
            Due.due("swallow", x.swallow(9 - s, s == 0 ? 9 : s), s);
        }
        Due.due("an eleventh", x.swallow(0, 1), -1);
        for (int s = 0; s < 10; s++) {
            Due.due("NEST", x.bird(s, 0), 9 - s);
            Due.due("EYES", x.bird(s, 1), s == 0 ? 9 : s);
            Due.due("MARKS", x.bird(s, 2), 0);
        }
        Due.due("NEST of the last", x.nest(9, 9), true);
        Due.due("NEST of an eleventh", x.nest(10, 9), false);
        Due.due("EYES 0", x.set(4, 9, 0), false);
        Due.due("EYES 10", x.set(4, 9, 10), false);
    }

    private static void sixteenUses() {
        Due.sentence("Terms 1", "USES, 16 at most at a time");
        SwallowsAir x = Airs.winter();
        Airs.takes(x, 15, 30);
        Due.due("would beside 15", x.would(0, 0, 9, 77, 1), 380);
        Due.due("the sixteenth", x.ask(0, 0, 5, 11, 30), 15);
        Due.due("uses", x.look(2), 16);
        Due.due("a seventeenth is asked for", x.ask(0, 0, 9, 77, 1), -2);
        Due.due("a seventeenth is taken", x.take(0, 0, 9, 77, 1), -2);
        Due.due("would beside 16", x.would(0, 0, 9, 77, 1), -2 - 380);
        Due.lines(x, 1, "on 0 person 0 ball at 9 7 7 for 9;", 1);
        x.days(1);
        Due.due("uses", x.look(2), 16);
        Due.due("no line for it", x.look(7), 16);
        Due.due("the sixteenth lies last", x.use(15, 0), 15);
        Due.due("use(16, 0)", x.use(16, 0), -1);
        x.ends(0);
        Due.due("at a time", x.take(0, 0, 9, 77, 1), 16);
        Due.due("uses", x.look(2), 16);
    }

    private static void numbers() {
        Due.sentence("Terms 1", "USES .. by number as they come");
        SwallowsAir x = Airs.winter();
        Due.due("0", x.take(0, 0, 5, 0, 1), 0);
        Due.due("1", x.ask(0, 0, 1, 0, 3), 1);
        Due.due("none", x.take(0, 0, 1, 0, 1), -2);
        x.days(1);
        Due.due("2, though 0 is free again", x.take(0, 0, 0, 0, 1), 2);
        Due.due("they lie by number", x.use(0, 0), 1);
        Due.due("they lie by number", x.use(1, 0), 2);
    }

    private static void oneOfSixteenEnds() {
        Due.sentence("Terms 1", "USES, 16 at most at a time, by number (one of sixteen ends)");
        for (int gone : new int[] {0, 1, 7, 14, 15}) {
            SwallowsAir x = Airs.winter();
            Airs.takes(x, 16, 30);
            Due.due("ends(" + gone + ")", x.ends(gone), true);
            for (int i = 0; i < 15; i++) {
                int number = i < gone ? i : i + 1;
                Due.due("use(" + i + ", 0) without " + gone, x.use(i, 0), number);
                Due.due("its ROOF", x.use(i, 3), number % 10);
                Due.due("its from", x.use(i, 4), number / 10);
            }
            Due.due("use(15, 0)", x.use(15, 0), -1);
            Due.due("the next", x.take(0, 0, 9, 77, 1), 16);
            Due.due("lies last", x.use(15, 0), 16);
        }
    }

    private static void toNotBelow() {
        Due.sentence("Terms 1", "from HEIGHT, to HEIGHT (not below it)");
        for (int from = 0; from < 8; from++) {
            SwallowsAir x = Airs.winter();
            if (from > 0) {
                Due.due("below " + from, x.take(0, 0, 0, 11 * from - 1, 1), -2);
            }
            Due.due("at " + from, x.take(0, 0, 0, 11 * from, 1), 0);
            Due.due("from", x.use(0, 4), from);
            Due.due("to", x.use(0, 5), from);
            if (from < 7) {
                Due.due("above " + from, x.take(0, 0, 1, 11 * from + 1, 1), 1);
                Due.due("to", x.use(1, 5), from + 1);
            }
        }
    }

    private static void daysYet() {
        Due.sentence("Terms 1", "DAYS yet 1 .. 30");
        SwallowsAir x = Airs.winter();
        Due.due("for 0", x.take(0, 0, 0, 0, 0), -2);
        Due.due("for 1", x.take(0, 0, 0, 0, 1), 0);
        Due.due("for 30", x.ask(0, 0, 1, 0, 30), 1);
        Due.due("for 31", x.ask(0, 0, 2, 0, 31), -2);
        Due.due("1 yet", x.use(0, 6), 1);
        Due.due("30 yet", x.use(1, 6), 30);
        x.days(29);
        Due.due("1 yet", x.use(0, 6), 1);
        Due.due("which one", x.use(0, 0), 1);
        x.days(1);
        Due.due("never 0", x.look(2), 0);
    }

    private static void leaves() {
        Due.sentence("Terms 1", "LEAVE 0, 1");
        SwallowsAir x = Airs.winter();
        x.take(0, 0, 0, 0, 30);
        x.ask(0, 0, 1, 0, 30);
        Due.due("taken", x.use(0, 7), 0);
        Due.due("asked for", x.use(1, 7), 1);
        x.set(5, 0, 100);
        Due.due("it stays in SUMMER", x.use(1, 7), 1);
        x.days(1);
        Due.due("and by days", x.use(0, 7) + x.use(1, 7), 1);
    }

    private static void rent() {
        Due.sentence("Terms 1", "RENT (what swallows got, an int, 0 at first).");
        SwallowsAir x = Airs.summer();
        Due.due("RENT", x.look(4), 0);
        Airs.law(x, "leave 1000; rent 40; fine 30;");
        x.ask(0, 0, 0, 0, 1);
        Due.due("rent", x.look(4), 40);
        x.take(0, 0, 2, 0, 1);
        x.days(1);
        Due.due("and fines", x.look(4), 70);
    }

    private static void season() {
        Due.sentence("Terms 1", "SEASON: a DAY modulo 360 from 90 to 269 is SUMMER, else WINTER.");
        SwallowsAir x = new SwallowsAir();
        for (int year : new int[] {0, 1, 2, 13, 26, 27}) {
            int[] ofYear = {0, 89, 90, 91, 268, 269, 270, 271, 359};
            int[] summer = {0, 0, 1, 1, 1, 1, 0, 0, 0};
            for (int i = 0; i < ofYear.length; i++) {
                int day = 360 * year + ofYear[i];
                if (x.set(5, 0, day)) {
                    Due.due("SUMMER on " + day, x.look(5), summer[i]);
                } else {
                    Due.due("DAY " + day, day > 9999, true);
                }
            }
        }
        x.set(5, 0, 9999);
        Due.due("SUMMER on 9999", x.look(5), 0);
    }

    private static void day() {
        Due.sentence("Terms 1", "DAY 0 .. 9999 (0 at first).");
        SwallowsAir x = new SwallowsAir();
        Due.due("DAY", x.look(6), 0);
        Due.due("DAY -1", x.set(5, 0, -1), false);
        Due.due("DAY 9999", x.set(5, 0, 9999), true);
        Due.due("DAY 10000", x.set(5, 0, 10000), false);
        Due.due("DAY", x.look(6), 9999);
        Due.due("DAY 0", x.set(5, 0, 0), true);
        Due.due("DAY", x.look(6), 0);
    }
}
