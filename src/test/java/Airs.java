/** Objects that the tests of edges begin with, and all that can be seen of one. */
final class Airs {
    static final int MIN = Integer.MIN_VALUE;
    static final int MAX = Integer.MAX_VALUE;

    private Airs() {
    }

    /** Two people and two swallows, on day 0. */
    static SwallowsAir winter() {
        SwallowsAir x = new SwallowsAir();
        x.person(3, 0, 100);
        x.person(4, 5, 7);
        x.swallow(2, 4);
        x.swallow(8, 1);
        return x;
    }

    /** The same on day 100. */
    static SwallowsAir summer() {
        SwallowsAir x = winter();
        x.set(5, 0, 100);
        return x;
    }

    /** As many uses as are wanted, from the lowest row of cells up: the i-th at roof i % 10, height i / 10. */
    static void takes(SwallowsAir x, int uses, int days) {
        for (int i = 0; i < uses; i++) {
            x.take(0, 0, i % 10, 11 * (i / 10), days);
        }
    }

    static void law(SwallowsAir x, String text) {
        Due.due("the law '" + text + "'", Due.tell(x, 0, text) > 0, true);
    }

    /** The STATE that a draw turns into v: the step, gone back. */
    static int stateBefore(int v) {
        int inverse = 1664525;
        for (int i = 0; i < 5; i++) {
            inverse *= 2 - 1664525 * inverse;
        }
        return (v - 1013904223) * inverse;
    }

    /** The STATE from which the next draw of 1000 is d. */
    static int stateFor(int d) {
        return stateBefore(d << 8);
    }

    /** Some 110 calls: an object has 512. */
    static String seen(SwallowsAir x) {
        StringBuilder s = new StringBuilder();
        for (int what = 0; what < 14; what++) {
            s.append(x.look(what)).append(' ');
        }
        for (int p = 0; p < Math.min(3, x.look(0)); p++) {
            s.append("\n  person");
            for (int what = 0; what < 5; what++) {
                s.append(' ').append(x.of(p, what));
            }
        }
        for (int b = 0; b < Math.min(3, x.look(1)); b++) {
            s.append("\n  swallow");
            for (int what = 0; what < 3; what++) {
                s.append(' ').append(x.bird(b, what));
            }
        }
        for (int i = 0; i < Math.min(3, x.look(2)); i++) {
            s.append("\n  use");
            for (int what = 0; what < 11; what++) {
                s.append(' ').append(x.use(i, what));
            }
        }
        int lines = x.look(7);
        for (int i = Math.max(0, lines - 2); i < lines; i++) {
            s.append("\n  book");
            for (int what = 0; what < 4; what++) {
                s.append(' ').append(x.book(i, what));
            }
        }
        s.append("\n  told");
        for (int roof = 0; roof < 10; roof++) {
            s.append(' ').append(x.lease(roof));
        }
        s.append(" | ").append(x.beside(0)).append(' ').append(x.beside(1)).append(' ').append(x.strings(0));
        s.append(' ').append(x.strings(1)).append(' ').append(x.eaves(0)).append(' ').append(x.eaves(10));
        s.append(' ').append(x.asked(0)).append(' ').append(x.asked(1)).append(' ').append(x.arbiter(0));
        s.append(' ').append(x.arbiter(1)).append(' ').append(x.cites(1, 0)).append(' ').append(x.cites(1, 1));
        s.append(' ').append(x.goes(3, 1));
        return s.toString();
    }
}
