/** Promises 6 to 9, 17, 19, 20: to ask, to take, to end, to nest, and what is read of them. */
public final class AskTest {
    public static void main(String[] args) {
        winter();
        summer();
        purse();
        usedCellsInTheLaw();
        wrongAsks();
        sixteen();
        bookIsFull();
        nesting();
        Due.close("AskTest");
    }

    private static void row(SwallowsAir x, int i, int... want) {
        for (int what = 0; what < want.length; what++) {
            Due.due("use(" + i + ", " + what + ")", x.use(i, what), want[what]);
        }
    }

    private static void line(SwallowsAir x, int i, int... want) {
        for (int what = 0; what < 4; what++) {
            Due.due("book(" + i + ", " + what + ")", x.book(i, what), want[what]);
        }
    }

    private static SwallowsAir summerAir() {
        SwallowsAir x = new SwallowsAir();
        x.person(3, 0, 100);
        x.person(4, 5, 7);
        x.swallow(2, 4);
        x.set(5, 0, 100);
        return x;
    }

    private static void winter() {
        SwallowsAir x = new SwallowsAir();
        x.person(3, 0, 100);
        x.swallow(2, 4);
        x.state(5);
        Due.due("ask", x.ask(0, 5, 2, 37, 30), 0);
        row(x, 0, 0, 0, 5, 2, 3, 7, 30, 1, 280, 37, 150, -1);
        line(x, 0, 0, 0, 0, 0);
        Due.due("free", x.of(0, 1), 100);
        Due.due("no draw", x.look(8), 5);
        Due.due("cells", x.look(3), 5);
        Due.due("rent", x.look(4), 0);
        Due.due("take", x.take(0, 0, 2, 22, 1), 1);
        row(x, 1, 1, 0, 0, 2, 2, 2, 1, 0, 580, 3, 5, -1);
        line(x, 1, 0, 2, 1, 0);
        Due.due("use(2, 0)", x.use(2, 0), -1);
        Due.due("use(-1, 0)", x.use(-1, 0), -1);
        Due.due("use(0, -1)", x.use(0, -1), -1);
        Due.due("ends(0)", x.ends(0), true);
        Due.due("ends(0) again", x.ends(0), false);
        Due.due("ends(2)", x.ends(2), false);
        Due.due("ends(-1)", x.ends(-1), false);
        line(x, 2, 0, 4, 0, 0);
        row(x, 0, 1, 0, 0, 2, 2, 2, 1, 0);
        Due.due("numbers go on", x.ask(0, 0, 0, 0, 1), 2);
        Due.due("uses", x.look(2), 2);
        Due.due("book lines", x.look(7), 4);
        Due.due("book(4, 0)", x.book(4, 0), -1);
        Due.due("book(-1, 0)", x.book(-1, 0), -1);
        Due.due("book(0, 4)", x.book(0, 4), -1);
        Due.due("book(0, -1)", x.book(0, -1), -1);
    }

    private static int draw(int state) {
        return 1664525 * state + 1013904223;
    }

    private static void summer() {
        SwallowsAir x = summerAir();
        int state = 0;
        int given = 0;
        for (int i = 0; i < 30; i++) {
            state = draw(state);
            int leave = 800 - 60 * 4 - 100;
            int rent = Math.min(x.of(0, 1), 6);
            int drawn = (int) ((state & 0xffffffffL) >> 8) % 1000;
            int before = x.of(0, 1);
            int got = x.ask(0, 3, 2, 14, 2);
            Due.due("drawn " + drawn, got, drawn < leave ? given : -1);
            Due.due("state", x.look(8), state);
            if (drawn < leave) {
                Due.due("paid", x.of(0, 1), before - rent);
                line(x, x.look(7) - 1, 100, 0, given, rent);
                row(x, 0, given, 0, 3, 2, 1, 4, 2, 1);
                x.ends(given);
                given++;
            } else {
                line(x, x.look(7) - 1, 100, 1, 0, leave);
                Due.due("nothing begun", x.look(2), 0);
            }
        }
        Due.due("rent and purse", x.look(4) + x.of(0, 1), 100);
        x = summerAir();
        Due.lines(x, 0, "leave 563;", 1);
        Due.due("the draw is not below", x.ask(0, 0, 0, 0, 1), -1);
        x = summerAir();
        Due.lines(x, 0, "leave 564;", 1);
        Due.due("the draw is below", x.ask(0, 0, 0, 0, 1), 0);
    }

    private static void purse() {
        SwallowsAir x = summerAir();
        Due.lines(x, 0, "leave 1000; rent 5;", 2);
        x.ask(1, 0, 0, 0, 1);
        Due.due("purse", x.of(1, 1), 2);
        x.ask(1, 0, 1, 0, 1);
        Due.due("purse no lower", x.of(1, 1), 0);
        line(x, 1, 100, 0, 1, 2);
        x.ask(1, 0, 3, 0, 1);
        line(x, 2, 100, 0, 2, 0);
        Due.due("rent", x.look(4), 7);
        Due.due("rent is no fine", x.of(1, 4), 0);
    }

    private static void usedCellsInTheLaw() {
        SwallowsAir x = summerAir();
        Due.lines(x, 0, "leave 999 - used; rent used + 1; fine used;", 3);
        x.ask(0, 0, 0, 3, 1);
        line(x, 0, 100, 0, 0, 1);
        Due.due("leave with it", x.use(0, 8), 995);
        Due.due("rent with it", x.use(0, 9), 5);
        Due.due("fine with it", x.use(0, 10), 4);
        Due.due("would without it", x.would(0, 0, 1, 7, 1), 995);
        Due.due("would on used", x.would(0, 0, 0, 37, 1), -2 - 995);
    }

    private static void wrongAsks() {
        SwallowsAir x = summerAir();
        x.ask(0, 0, 4, 35, 9);
        int lines = x.look(7);
        int state = x.look(8);
        int[][] wrong = {
            {2, 0, 0, 0, 1}, {-1, 0, 0, 0, 1}, {0, 6, 0, 0, 1}, {0, -1, 0, 0, 1}, {0, 0, 10, 0, 1},
            {0, 0, -1, 0, 1}, {0, 0, 0, -1, 1}, {0, 0, 0, 8, 1}, {0, 0, 0, 9, 1}, {0, 0, 0, 10, 1},
            {0, 0, 0, 76, 1}, {0, 0, 0, 78, 1}, {0, 0, 0, 80, 1}, {0, 0, 0, 88, 1}, {0, 0, 0, 100, 1},
            {0, 0, 0, Integer.MAX_VALUE, 1}, {0, 0, 0, Integer.MIN_VALUE, 1}, {0, 0, 0, 0, 0}, {0, 0, 0, 0, 31},
            {0, 0, 0, 0, -1}};
        for (int[] w : wrong) {
            String of = java.util.Arrays.toString(w);
            Due.due("ask" + of, x.ask(w[0], w[1], w[2], w[3], w[4]), -2);
            Due.due("take" + of, x.take(w[0], w[1], w[2], w[3], w[4]), -2);
            Due.due("would" + of, x.would(w[0], w[1], w[2], w[3], w[4]), -1);
        }
        if (x.look(2) == 1) {
            for (int heights : new int[] {3, 33, 44, 55, 57, 7, 45}) {
                Due.due("ask used " + heights, x.ask(0, 0, 4, heights, 1), -2);
                Due.due("take used " + heights, x.take(0, 0, 4, heights, 1), -2);
                Due.due("would used " + heights, x.would(0, 0, 4, heights, 1), -2 - (800 - 60 * (heights % 10)));
            }
        }
        Due.due("no line", x.look(7), lines);
        Due.due("no draw", x.look(8), state);
        Due.due("below is free", x.take(0, 0, 4, 2, 1) >= 0, true);
        Due.due("above is free", x.take(0, 0, 4, 67, 30) >= 0, true);
    }

    private static void sixteen() {
        SwallowsAir x = new SwallowsAir();
        x.person(0, 0, 0);
        for (int i = 0; i < 16; i++) {
            Due.due("take " + i, x.take(0, 0, i % 10, 11 * (i / 10), 1), i);
        }
        Due.due("seventeenth take", x.take(0, 0, 9, 77, 1), -2);
        Due.due("seventeenth ask", x.ask(0, 0, 9, 77, 1), -2);
        Due.due("would", x.would(0, 0, 9, 77, 1), -2 - 380);
        x.ends(5);
        Due.due("as they lie", x.use(5, 0), 6);
        Due.due("last", x.use(14, 0), 15);
        Due.due("then", x.ask(0, 0, 9, 77, 1), 16);
        Due.due("at the end", x.use(15, 0), 16);
    }

    private static void bookIsFull() {
        SwallowsAir x = new SwallowsAir();
        x.person(0, 0, 0);
        for (int i = 0; i < 75; i++) {
            x.take(0, 0, 0, 0, 1);
            x.ends(i);
        }
        Due.due("full", x.look(7), 150);
        Due.due("goes on", x.take(0, 0, 0, 0, 1), 75);
        Due.due("no more", x.look(7), 150);
        line(x, 149, 0, 4, 74, 0);
        Due.due("undo", x.undo(), true);
        Due.due("undo", x.undo(), true);
        Due.due("a line less", x.look(7), 149);
        Due.due("book(149, 0)", x.book(149, 0), -1);
    }

    private static void nesting() {
        SwallowsAir x = summerAir();
        Due.due("nest(0, 2)", x.nest(0, 2), false);
        Due.due("nest(1, 0)", x.nest(1, 0), false);
        Due.due("nest(-1, 0)", x.nest(-1, 0), false);
        Due.due("nest(0, 10)", x.nest(0, 10), false);
        Due.due("nest(0, -1)", x.nest(0, -1), false);
        Due.due("nothing", x.look(13), 0);
        Due.due("leave at 9", x.would(0, 0, 9, 0, 1), 800);
        Due.due("nest(0, 9)", x.nest(0, 9), true);
        Due.due("leave at 9 then", x.would(0, 0, 9, 0, 1), 700);
        Due.due("bird(0, 0)", x.bird(0, 0), 9);
        Due.due("no line", x.look(7), 0);
    }
}
