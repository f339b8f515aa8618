/** Promises 10 and 21, and what a day does to 15, 16, 17 and 19. */
public final class DaysTest {
    public static void main(String[] args) {
        bounds();
        wearing();
        petitions();
        fining();
        finesInOrder();
        stoops();
        leaseSees();
        firstOfWinter();
        thought();
        thoughtBeyondLastDay();
        ten();
        Due.close("DaysTest");
    }

    private static void bounds() {
        SwallowsAir x = new SwallowsAir();
        Due.due("days(0)", x.days(0), -1);
        Due.due("days(-1)", x.days(-1), -1);
        Due.due("days(61)", x.days(61), -1);
        Due.due("days(max)", x.days(Integer.MAX_VALUE), -1);
        Due.due("day", x.look(6), 0);
        Due.due("days(60)", x.days(60), 0);
        Due.due("day", x.look(6), 60);
        x.set(5, 0, 9990);
        Due.due("days(10)", x.days(10), -1);
        Due.due("day", x.look(6), 9990);
        Due.due("days(9)", x.days(9), 0);
        Due.due("day", x.look(6), 9999);
        Due.due("days(1)", x.days(1), -1);
    }

    private static void wearing() {
        SwallowsAir x = new SwallowsAir();
        x.person(0, 0, 0);
        x.ask(0, 0, 0, 0, 2);
        x.take(0, 0, 1, 0, 1);
        x.ask(0, 0, 2, 0, 1);
        x.take(0, 0, 3, 0, 3);
        Due.due("days(1)", x.days(1), 0);
        Due.due("left", x.look(2), 2);
        Due.due("days yet", x.use(0, 6), 1);
        Due.due("days yet", x.use(1, 6), 2);
        Due.due("ended first", x.book(4, 2), 1);
        Due.due("ended then", x.book(5, 2), 2);
        Due.due("ended", x.book(5, 1), 4);
        Due.due("on day", x.book(5, 0), 0);
        Due.due("how much", x.book(5, 3), 0);
        x.days(2);
        Due.due("none left", x.look(2), 0);
        Due.due("on day", x.book(7, 0), 2);
        Due.due("lines", x.look(7), 8);
    }

    private static void petitions() {
        SwallowsAir x = new SwallowsAir();
        x.person(0, 0, 50);
        x.person(0, 0, 50);
        Due.lines(x, 1, "on 3 person 1 bell at 4 0 3 for 2; on 1 person 0 ball at 0 7 7 for 30;"
                + " on 3 person 0 washing at 4 3 5 for 2;\non 3 person 0 umbrella at 4 4 5 for 1;", 4);
        x.days(1);
        Due.due("none yet", x.look(7), 0);
        x.days(1);
        Due.due("one", x.look(7), 1);
        Due.due("its kind", x.use(0, 2), 5);
        Due.due("its days", x.use(0, 6), 29);
        x.days(2);
        Due.due("the middle one can't be", x.look(7), 4);
        Due.due("bell", x.use(1, 2), 3);
        Due.due("ended", x.book(3, 2), 2);
        x.set(5, 0, 3);
        x.days(1);
        Due.due("again on that day: bell's air is used, umbrella's free", x.look(7), 7);
        x = new SwallowsAir();
        x.person(0, 0, 50);
        Due.lines(x, 1, "on 90 person 0 kite at 0 0 0 for 5;on 90 person 0 kite at 1 0 1 for 5;", 2);
        Due.lines(x, 0, "leave 570;", 1);
        x.set(5, 0, 90);
        x.days(1);
        Due.due("given by 563", x.book(0, 1), 0);
        Due.due("refused by 577", x.book(1, 1), 1);
        Due.due("refused whom", x.book(1, 2), 0);
        Due.due("leave", x.book(1, 3), 570);
        Due.due("paid", x.of(0, 1), 45);
        Due.due("two draws", x.look(8), 1196435762);
    }

    private static void fining() {
        SwallowsAir x = new SwallowsAir();
        x.person(0, 0, 12);
        x.swallow(9, 1);
        x.swallow(5, 3);
        x.swallow(4, 9);
        x.set(5, 0, 200);
        x.take(0, 0, 6, 0, 2);
        x.take(0, 0, 8, 0, 4);
        x.ask(0, 0, 5, 77, 4);
        Due.due("days(1)", x.days(1), 1);
        Due.due("the least that sees has a mark", x.bird(1, 2), 1);
        Due.due("another has none", x.bird(2, 2), 0);
        Due.due("purse", x.of(0, 1), 2);
        Due.due("fined", x.of(0, 4), 10);
        Due.due("stoops", x.of(0, 3), 1);
        Due.due("rent", x.look(4), 10);
        int last = x.look(7) - 1;
        Due.due("line", x.book(last, 1), 3);
        Due.due("which", x.book(last, 2), 0);
        Due.due("how much", x.book(last, 3), 10);
        Due.due("the unseen one goes on", x.use(0, 0), 1);
        x.nest(0, 8);
        Due.due("seen now", x.days(1), 1);
        Due.due("it pays what it has", x.of(0, 1), 0);
        Due.due("fined by what was paid", x.of(0, 4), 12);
        Due.due("rent", x.look(4), 12);
        x.set(5, 0, 300);
        x.take(0, 0, 8, 0, 4);
        Due.due("free in winter", x.days(1), 0);
        Due.due("and goes on", x.use(x.look(2) - 1, 6), 3);
    }

    /** The fine of a later use is asked when an earlier one has been fined and is gone. */
    private static void finesInOrder() {
        SwallowsAir x = new SwallowsAir();
        x.person(0, 0, 9000);
        x.swallow(0, 9);
        Due.lines(x, 0, "fine fined * 10 + used;", 1);
        x.take(0, 0, 0, 3, 5);
        x.take(0, 0, 1, 1, 5);
        x.take(0, 0, 9, 77, 5);
        x.set(5, 0, 90);
        Due.due("both", x.days(1), 2);
        Due.due("first", x.book(3, 3), 7);
        Due.due("second", x.book(4, 3), 73);
        Due.due("fined", x.of(0, 4), 80);
        Due.due("marks", x.bird(0, 2), 2);
        Due.due("one left", x.use(0, 0), 2);
    }

    private static void stoops() {
        SwallowsAir x = new SwallowsAir();
        x.person(0, 0, 0);
        x.swallow(0, 9);
        x.set(5, 0, 100);
        for (int i = 1; i <= 9; i++) {
            x.take(0, 0, 0, 0, 1);
            Due.due("fined", x.days(1), 1);
            Due.due("stoops", x.of(0, 3), Math.min(7, i));
        }
        Due.due("a line 3, no line 4", x.look(7), 18);
    }

    private static void leaseSees() {
        SwallowsAir x = new SwallowsAir();
        x.person(0, 0, 9);
        x.swallow(0, 3);
        x.swallow(0, 1);
        Due.lines(x, 2, "turn 7 to 0;turn 4 to 0;turn 4 to 1;", 3);
        Due.due("lease(7)", x.lease(7), 0);
        Due.due("lease(4)", x.lease(4), 1);
        Due.due("lease(0)", x.lease(0), -1);
        Due.due("lease(-1)", x.lease(-1), -1);
        Due.due("lease(10)", x.lease(10), -1);
        int[] first = {1, 1, 0, 0, 0, 0, 1, 1, 1, 0};
        int[] second = {1, 0, 0, 0, 1, 0, 0, 0, 0, 0};
        for (int r = 0; r < 10; r++) {
            Due.due("bird(0, 10 + " + r + ")", x.bird(0, 10 + r), first[r]);
            Due.due("bird(1, 10 + " + r + ")", x.bird(1, 10 + r), second[r]);
        }
        x.set(5, 0, 90);
        x.take(0, 0, 4, 0, 1);
        x.take(0, 0, 8, 0, 1);
        x.take(0, 0, 9, 0, 1);
        Due.due("days(1)", x.days(1), 2);
        Due.due("marks", x.bird(0, 2), 1);
        Due.due("marks", x.bird(1, 2), 1);
        Due.lines(x, 2, "", 0);
        Due.due("no lease", x.lease(7), -1);
        Due.due("no sight", x.bird(0, 17), 0);
        Due.due("no lines", x.look(11), 0);
    }

    private static void firstOfWinter() {
        SwallowsAir x = new SwallowsAir();
        x.person(0, 0, 9);
        x.person(0, 0, 9);
        x.swallow(0, 3);
        x.set(3, 0, 4);
        x.set(3, 1, 5);
        x.set(5, 0, 268);
        x.take(0, 0, 0, 0, 1);
        Due.due("fined", x.days(1), 1);
        x.days(1);
        Due.due("day", x.look(6), 270);
        Due.due("stoops yet", x.of(0, 3), 5);
        Due.due("marks yet", x.bird(0, 2), 1);
        x.days(1);
        Due.due("stoops", x.of(0, 3), 0);
        Due.due("stoops", x.of(1, 3), 0);
        Due.due("marks", x.bird(0, 2), 0);
        Due.due("fined stays", x.of(0, 4), 5);
        x.set(3, 0, 4);
        x.days(60);
        Due.due("only on the first day", x.of(0, 3), 4);
        x.set(5, 0, 270 + 3600);
        x.days(1);
        Due.due("of each year", x.of(0, 3), 0);
    }

    private static void thought() {
        SwallowsAir x = new SwallowsAir();
        x.person(0, 0, 100);
        x.person(0, 0, 100);
        x.swallow(0, 3);
        Due.lines(x, 1, "on 91 person 0 kite at 8 0 1 for 3;on 91 person 1 kite at 9 0 2 for 30;", 2);
        Due.lines(x, 0, "leave 500 when roof = 8; leave 499;", 2);
        x.set(5, 0, 90);
        x.state(77);
        x.take(0, 0, 0, 0, 3);
        Due.due("rent", x.goes(1, 0), 15);
        Due.due("rent", x.goes(2, 0), 19);
        Due.due("uses", x.goes(1, 1), 0);
        Due.due("uses", x.goes(2, 1), 1);
        Due.due("uses", x.goes(4, 1), 0);
        Due.due("fined", x.goes(60, 2), 15);
        Due.due("marks", x.goes(60, 3), 1);
        Due.due("goes(0, 0)", x.goes(0, 0), -1);
        Due.due("goes(61, 0)", x.goes(61, 0), -1);
        Due.due("goes(1, 4)", x.goes(1, 4), -1);
        Due.due("goes(1, -1)", x.goes(1, -1), -1);
        Due.due("day stays", x.look(6), 90);
        Due.due("state stays", x.look(8), 77);
        Due.due("uses stay", x.look(2), 1);
        Due.due("rent stays", x.look(4), 0);
        Due.due("purse stays", x.of(0, 1), 100);
        Due.due("marks stay", x.bird(0, 2), 0);
        Due.due("book stays", x.look(7), 1);
        Due.due("what can be undone stays", x.look(13), 1);
        Due.due("the next number stays", x.take(0, 0, 5, 0, 1), 1);
        Due.due("no thought outlasts", x.days(1), 1);
    }

    /** Only days() is held to DAY 9999; in thought it is winter there, and uses wear on. */
    private static void thoughtBeyondLastDay() {
        SwallowsAir x = new SwallowsAir();
        x.person(0, 0, 50);
        x.swallow(0, 9);
        Due.lines(x, 1, "on 9999 person 0 kite at 3 0 0 for 2;", 1);
        x.set(5, 0, 9990);
        x.take(0, 0, 0, 0, 30);
        Due.due("up to the last", x.goes(9, 1), 1);
        Due.due("the last day's petition", x.goes(10, 1), 2);
        Due.due("ends on the next", x.goes(11, 1), 1);
        Due.due("the other one's last day", x.goes(29, 1), 1);
        Due.due("ends", x.goes(30, 1), 0);
        Due.due("free", x.goes(60, 0), 0);
        Due.due("none is fined", x.goes(60, 2), 0);
        Due.due("none marks", x.goes(60, 3), 0);
        x.set(5, 0, 9999);
        for (int what = 0; what < 4; what++) {
            Due.due("goes(60, " + what + ")", x.goes(60, what), 0);
        }
        Due.due("goes(61, 0)", x.goes(61, 0), -1);
        Due.due("goes(0, 0)", x.goes(0, 0), -1);
        Due.due("goes(1, 1)", x.goes(1, 1), 2);
        Due.due("day stays", x.look(6), 9999);
        Due.due("uses stay", x.look(2), 1);
        Due.due("days(1)", x.days(1), -1);
    }

    /** As many people, swallows and uses as there can be. */
    private static void ten() {
        SwallowsAir x = new SwallowsAir();
        for (int i = 0; i < 10; i++) {
            x.person(0, i, 100);
            x.swallow(i, 1);
            x.set(3, i, 7);
        }
        for (int i = 0; i < 16; i++) {
            x.take(i % 10, 0, i % 10, 11 * (i / 10), 4);
        }
        Due.due("ten alike: who begins loses", x.game(0), -1);
        x.set(3, 9, 6);
        Due.due("the first", x.game(0), 0);
        x.set(5, 0, 269);
        Due.due("fined of all", x.goes(1, 2), 16 * 20);
        Due.due("marks of all", x.goes(1, 3), 16);
        Due.due("fined of all", x.goes(2, 2), 16 * 20);
        Due.due("marks of all", x.goes(2, 3), 0);
        Due.due("rent", x.goes(2, 0), 320);
        Due.due("uses", x.goes(2, 1), 0);
        Due.due("days(2)", x.days(2), 16);
        Due.due("marks of the last", x.bird(9, 2), 0);
        Due.due("stoops of the last", x.of(9, 3), 0);
        Due.due("fined of the first", x.of(0, 4), 40);
        Due.due("fined of the last", x.of(9, 4), 20);
    }
}
