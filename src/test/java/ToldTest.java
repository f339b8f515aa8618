/** Promises 1 to 5, 15, 16 and 41: what there is, how it is told and looked at. */
public final class ToldTest {
    public static void main(String[] args) {
        fresh();
        states();
        people();
        swallows();
        sets();
        Due.close("ToldTest");
    }

    private static void fresh() {
        SwallowsAir x = new SwallowsAir();
        Due.due("NONE", SwallowsAir.NONE, -1);
        for (int what = 0; what <= 13; what++) {
            Due.due("new look(" + what + ")", x.look(what), 0);
        }
        Due.due("look(14)", x.look(14), -1);
        Due.due("look(-1)", x.look(-1), -1);
        Due.due("look(min)", x.look(Integer.MIN_VALUE), -1);
        Due.due("new fault(0)", x.fault(0), 0);
        Due.due("new fault(1)", x.fault(1), -1);
        Due.due("new wide(0)", x.wide(0), 80);
        Due.due("new undo", x.undo(), false);
        Due.due("new image", x.image(false), false);
    }

    private static void states() {
        SwallowsAir x = new SwallowsAir();
        Due.due("state(-7)", x.state(-7), 0);
        Due.due("look(8)", x.look(8), -7);
        Due.due("state(max)", x.state(Integer.MAX_VALUE), -7);
        Due.due("state(0)", x.state(0), Integer.MAX_VALUE);
    }

    private static void people() {
        SwallowsAir x = new SwallowsAir();
        Due.due("tall -1", x.person(-1, 0, 0), -1);
        Due.due("tall 8", x.person(8, 0, 0), -1);
        Due.due("roof -1", x.person(0, -1, 0), -1);
        Due.due("roof 10", x.person(0, 10, 0), -1);
        Due.due("purse -1", x.person(0, 0, -1), -1);
        Due.due("purse 10000", x.person(0, 0, 10000), -1);
        Due.due("look(0)", x.look(0), 0);
        Due.due("person(7, 9, 9999)", x.person(7, 9, 9999), 0);
        for (int i = 1; i < 10; i++) {
            Due.due("person " + i, x.person(i % 8, i, 10 * i), i);
        }
        Due.due("eleventh", x.person(0, 0, 0), -1);
        Due.due("look(0)", x.look(0), 10);
        int[] first = {7, 9999, 9, 0, 0};
        int[] last = {1, 90, 9, 0, 0};
        for (int what = 0; what < 5; what++) {
            Due.due("of(0, " + what + ")", x.of(0, what), first[what]);
            Due.due("of(9, " + what + ")", x.of(9, what), last[what]);
        }
        Due.due("of(0, 5)", x.of(0, 5), -1);
        Due.due("of(0, -1)", x.of(0, -1), -1);
        Due.due("of(10, 0)", x.of(10, 0), -1);
        Due.due("of(-1, 0)", x.of(-1, 0), -1);
        Due.due("of(max, 0)", x.of(Integer.MAX_VALUE, 0), -1);
    }

    private static void swallows() {
        SwallowsAir x = new SwallowsAir();
        Due.due("nest -1", x.swallow(-1, 1), -1);
        Due.due("nest 10", x.swallow(10, 1), -1);
        Due.due("eyes 0", x.swallow(0, 0), -1);
        Due.due("eyes 10", x.swallow(0, 10), -1);
        Due.due("look(1)", x.look(1), 0);
        for (int i = 0; i < 10; i++) {
            Due.due("swallow " + i, x.swallow(9 - i, Math.max(1, i)), i);
        }
        Due.due("eleventh", x.swallow(0, 1), -1);
        Due.due("look(1)", x.look(1), 10);
        Due.due("bird(3, 0)", x.bird(3, 0), 6);
        Due.due("bird(3, 1)", x.bird(3, 1), 3);
        Due.due("bird(3, 2)", x.bird(3, 2), 0);
        for (int what = 3; what < 10; what++) {
            Due.due("bird(3, " + what + ")", x.bird(3, what), -1);
        }
        Due.due("bird(3, 20)", x.bird(3, 20), -1);
        Due.due("bird(3, -1)", x.bird(3, -1), -1);
        Due.due("bird(10, 0)", x.bird(10, 0), -1);
        Due.due("bird(-1, 0)", x.bird(-1, 0), -1);
        /* eyes 2, 3, 5, 6, 8, 9 reach 0, 1, 1, 2, 2, 3 */
        for (int s = 0; s < 10; s++) {
            int reach = Math.max(1, s) / 3;
            for (int r = 0; r < 10; r++) {
                Due.due("bird(" + s + ", 10 + " + r + ")", x.bird(s, 10 + r), Math.abs(r - (9 - s)) <= reach ? 1 : 0);
            }
        }
    }

    private static void sets() {
        SwallowsAir x = new SwallowsAir();
        x.person(0, 0, 0);
        x.swallow(0, 1);
        int[] most = {7, 9999, 9, 7, 9, 9999};
        int[] least = {0, 0, 0, 0, 1, 0};
        for (int what = 0; what < 6; what++) {
            Due.due("set(" + what + ") most", x.set(what, 0, most[what]), true);
            Due.due("now most " + what, read(x, what), most[what]);
            Due.due("set(" + what + ") beyond", x.set(what, 0, most[what] + 1), false);
            Due.due("set(" + what + ") below", x.set(what, 0, least[what] - 1), false);
            Due.due("still most " + what, read(x, what), most[what]);
            Due.due("set(" + what + ") least", x.set(what, 0, least[what]), true);
            Due.due("now least " + what, read(x, what), least[what]);
            if (what < 5) {
                Due.due("set(" + what + ") of 1", x.set(what, 1, least[what]), false);
                Due.due("set(" + what + ") of -1", x.set(what, -1, least[what]), false);
            }
        }
        Due.due("set day, who not asked", x.set(5, -77, 89), true);
        Due.due("winter", x.look(5), 0);
        x.set(5, 99, 90);
        Due.due("summer", x.look(5), 1);
        x.set(5, 0, 269);
        Due.due("summer yet", x.look(5), 1);
        x.set(5, 0, 270);
        Due.due("winter again", x.look(5), 0);
        x.set(5, 0, 360 * 5 + 90);
        Due.due("summer in another year", x.look(5), 1);
        Due.due("set(6)", x.set(6, 0, 1), false);
        Due.due("set(-1)", x.set(-1, 0, 1), false);
    }

    private static int read(SwallowsAir x, int what) {
        return what == 5 ? x.look(6) : what == 4 ? x.bird(0, 1) : x.of(0, what);
    }
}
