import java.util.Random;

/** Long random runs of calls on the program and on the model: every answer of both is the same. */
public final class ModelTest {
    private static final int RUNS = 400;

    private final SwallowsAir x = new SwallowsAir();
    private final Model m = new Model();
    private final Random random;
    private int calls;

    private ModelTest(long seed) {
        random = new Random(seed);
    }

    public static void main(String[] args) {
        for (int seed = 0; seed < RUNS; seed++) {
            new ModelTest(seed).run();
        }
        Due.close("ModelTest");
    }

    private void run() {
        int people = random.nextInt(6);
        for (int i = 0; i < people; i++) {
            person();
        }
        for (int i = 0; i < random.nextInt(6); i++) {
            swallow();
        }
        boolean looks = random.nextBoolean();
        while (calls < 430) {
            step();
            if (looks) {
                look();
            }
        }
        for (int what = 0; what < 14; what++) {
            Due.due("look(" + what + ")", x.look(what), m.look(what));
        }
    }

    private int below(int most) {
        return random.nextInt(most);
    }

    /** Mostly a number that can be, sometimes one on or beyond the edge. */
    private int about(int least, int most) {
        int kind = below(30);
        return kind == 0 ? least - 1 : kind == 1 ? most + 1 : kind == 2 ? least : kind == 3 ? most
                : least + below(most - least + 1);
    }

    private int heights() {
        int from = below(8);
        int to = below(3) == 0 ? Math.min(7, from + below(8)) : from;
        return below(25) == 0 ? about(0, 99) : 10 * from + to;
    }

    private int who() {
        return about(0, Math.max(0, m.s.people.size() - 1));
    }

    private int which() {
        return about(0, Math.max(0, m.s.swallows.size() - 1));
    }

    private void person() {
        int a = about(0, 7);
        int b = about(0, 9);
        int c = below(3) == 0 ? about(0, 9999) : below(100);
        calls++;
        Due.due("person", x.person(a, b, c), m.person(a, b, c));
    }

    private void swallow() {
        int a = about(0, 9);
        int b = about(1, 9);
        calls++;
        Due.due("swallow", x.swallow(a, b), m.swallow(a, b));
    }

    private void step() {
        calls++;
        int kind = below(100);
        if (kind < 16) {
            int p = who();
            int k = about(0, 5);
            int r = about(0, 9);
            int h = heights();
            int d = about(1, 30);
            Due.due("ask", x.ask(p, k, r, h, d), m.ask(p, k, r, h, d));
        } else if (kind < 28) {
            int p = who();
            int k = about(0, 5);
            int r = about(0, 9);
            int h = heights();
            int d = about(1, 30);
            Due.due("take", x.take(p, k, r, h, d), m.take(p, k, r, h, d));
        } else if (kind < 32) {
            int u = about(0, Math.max(1, m.s.next));
            Due.due("ends", x.ends(u), m.ends(u));
        } else if (kind < 36) {
            int b = which();
            int r = about(0, 9);
            Due.due("nest", x.nest(b, r), m.nest(b, r));
        } else if (kind < 52) {
            int n = below(10) == 0 ? about(1, 60) : 1 + below(3);
            Due.due("days", x.days(n), m.days(n));
        } else if (kind < 56) {
            int w = about(0, 5);
            int p = below(3);
            int v = w == 5 ? day() : w == 1 ? about(0, 9999) : about(0, 9);
            Due.due("set", x.set(w, p, v), m.set(w, p, v));
        } else {
            seldom(kind);
        }
    }

    private int day() {
        int[] edges = {88, 89, 90, 268, 269, 270, 271, 9990, 9999, 450, 449};
        return below(4) == 0 ? about(0, 9999) : edges[below(edges.length)];
    }

    private void seldom(int kind) {
        if (kind < 62) {
            int p = who();
            int k = about(0, 5);
            int r = about(0, 9);
            int h = heights();
            int d = about(1, 30);
            Due.due("would", x.would(p, k, r, h, d), m.would(p, k, r, h, d));
        } else if (kind < 67) {
            int n = about(1, 60);
            int w = about(0, 3);
            Due.due("goes", x.goes(n, w), m.goes(n, w));
        } else if (kind < 80) {
            tell();
        } else if (kind < 88) {
            Due.due("undo", x.undo(), m.undo());
        } else if (kind < 90) {
            Due.due("image(true)", x.image(true), m.image(true));
        } else if (kind < 92) {
            Due.due("image(false)", x.image(false), m.image(false));
        } else if (kind < 93) {
            int v = random.nextInt();
            Due.due("state", x.state(v), m.state(v));
        } else if (kind < 94) {
            person();
        } else if (kind < 95) {
            swallow();
        } else {
            look();
        }
    }

    private void look() {
        calls++;
        switch (below(6)) {
            case 0: {
                int w = about(0, 13);
                Due.due("look(" + w + ")", x.look(w), m.look(w));
                break;
            }
            case 1: {
                int p = who();
                int w = about(0, 4);
                Due.due("of", x.of(p, w), m.of(p, w));
                break;
            }
            case 2: {
                int b = which();
                int w = about(0, 19);
                Due.due("bird", x.bird(b, w), m.bird(b, w));
                break;
            }
            case 3: {
                int i = about(0, Math.max(0, m.s.uses.size() - 1));
                int w = about(0, 10);
                Due.due("use " + w, x.use(i, w), m.use(i, w));
                break;
            }
            case 4: {
                int r = about(0, 9);
                Due.due("lease", x.lease(r), m.leaseOf(r));
                break;
            }
            default: {
                int i = below(2) == 0 ? m.s.book.size() - 1 : about(0, Math.max(0, m.s.book.size()));
                int w = about(0, 3);
                Due.due("book", x.book(i, w), m.book(i, w));
                break;
            }
        }
    }

    private void tell() {
        int k = below(12) == 0 ? about(0, 3) : below(4);
        Texts texts = new Texts(random);
        String text = texts.some(k, m.s.people.size(), m.s.swallows.size(), m.s.day);
        Due.feed(x, text);
        m.tape = text;
        calls += 2 + (text.length() + 19) / 20;
        Due.due("text(" + k + ") of '" + text + "'", x.text(k), m.text(k));
        Due.due("fault(0) of '" + text + "'", x.fault(0), m.fault);
        Due.due("fault(1) of '" + text + "'", x.fault(1), m.faultPlace);
        calls += 2;
    }
}
