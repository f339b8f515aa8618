/** Promises 39 and 40: what goes back, what is kept, what forgets, and the image. */
public final class UndoTest {
    public static void main(String[] args) {
        each();
        sixAreKept();
        forgetting();
        keeping();
        goesBackInSummer();
        lawStays();
        image();
        imageOfAll();
        Due.close("UndoTest");
    }

    private static SwallowsAir air() {
        SwallowsAir x = new SwallowsAir();
        x.person(3, 0, 100);
        x.person(4, 5, 7);
        x.swallow(2, 4);
        return x;
    }

    private static void each() {
        SwallowsAir x = air();
        Due.due("nothing", x.undo(), false);
        x.ask(0, 0, 0, 0, 5);
        x.take(1, 0, 1, 0, 5);
        x.ends(0);
        x.nest(0, 9);
        x.days(1);
        Due.due("five", x.look(13), 5);
        Due.due("a day", x.undo(), true);
        Due.due("day", x.look(6), 0);
        Due.due("days yet", x.use(0, 6), 5);
        Due.due("nesting", x.undo(), true);
        Due.due("nest", x.bird(0, 0), 2);
        Due.due("ending", x.undo(), true);
        Due.due("uses", x.look(2), 2);
        Due.due("it lies where it lay", x.use(0, 0), 0);
        Due.due("book", x.look(7), 2);
        Due.due("taking", x.undo(), true);
        Due.due("uses", x.look(2), 1);
        Due.due("asking", x.undo(), true);
        Due.due("uses", x.look(2), 0);
        Due.due("book", x.look(7), 0);
        Due.due("no more", x.undo(), false);
        Due.due("numbers too", x.take(1, 0, 1, 0, 5), 0);
        x.ends(7);
        x.nest(0, 2);
        x.ask(0, 0, 1, 0, 5);
        x.take(0, 0, 1, 0, 5);
        x.days(0);
        x.undo();
        Due.due("what can't be is not kept", x.undo(), false);
    }

    private static void sixAreKept() {
        SwallowsAir x = air();
        x.days(4);
        Due.due("four", x.look(13), 4);
        x.days(1);
        x.days(60);
        Due.due("six", x.look(13), 6);
        for (int i = 1; i <= 6; i++) {
            Due.due("undo " + i, x.undo(), true);
            Due.due("day", x.look(6), 65 - i);
            Due.due("left", x.look(13), 6 - i);
        }
        Due.due("seventh", x.undo(), false);
        Due.due("day", x.look(6), 59);
        x.days(3);
        x.undo();
        x.days(2);
        Due.due("on top of what is left", x.look(13), 4);
        for (int i = 0; i < 4; i++) {
            x.undo();
        }
        Due.due("day", x.look(6), 59);
    }

    private static void forgets(String what, SwallowsAir x, boolean done) {
        Due.due(what + " is done", done, true);
        Due.due(what + " forgets", x.look(13), 0);
        Due.due(what + " forgets", x.undo(), false);
        x.days(2);
    }

    private static void forgetting() {
        SwallowsAir x = air();
        x.days(2);
        forgets("state", x, x.state(0) == 0);
        forgets("person", x, x.person(0, 0, 0) == 2);
        forgets("swallow", x, x.swallow(0, 1) == 1);
        for (int what = 0; what < 6; what++) {
            forgets("set " + what, x, x.set(what, 0, 1));
        }
        forgets("petitions", x, Due.tell(x, 1, "") == 0);
        forgets("lease", x, Due.tell(x, 2, "") == 0);
        x.image(true);
        Due.due("the taking of the image does not", x.look(13), 2);
        forgets("the image", x, x.image(false));
    }

    private static void keeping() {
        SwallowsAir x = air();
        x.days(2);
        x.person(8, 0, 0);
        x.swallow(0, 0);
        x.set(0, 7, 0);
        x.set(5, 0, -1);
        x.set(9, 0, 0);
        Due.tell(x, 1, "on");
        Due.tell(x, 2, "turn 1 to 8;");
        x.text(5);
        x.image(false);
        Due.due("what can't be does not", x.look(13), 2);
        Due.tell(x, 0, "rent 1;");
        Due.tell(x, 3, "case 1 follows 2;");
        Due.tell(x, 0, "rent");
        x.wish(0, 0, 1);
        x.kite(1, 1);
        x.way(1, 1, 1);
        x.voice(1, 1);
        x.point(1, 1, 1, 1);
        x.feed(0, 0, 0, 0, 0);
        x.end(0);
        x.goes(5, 0);
        x.would(0, 0, 0, 0, 1);
        Due.due("law, cites and what is told for thought do not", x.look(13), 2);
        Due.due("undo", x.undo(), true);
        Due.due("day", x.look(6), 1);
        Due.due("the law stays", x.look(9), 1);
        Due.due("cites stay", x.cites(2, 0), 2);
        Due.due("wishes stay", x.beside(0), 1);
        Due.due("kites stay", x.strings(1), 1);
        Due.due("points stay", x.arbiter(0), 1);
    }

    private static void goesBackInSummer() {
        SwallowsAir x = air();
        x.set(5, 0, 100);
        x.take(1, 0, 2, 0, 5);
        x.ask(0, 0, 0, 0, 5);
        Due.due("begun", x.look(2), 2);
        Due.due("rent", x.look(4), 5);
        Due.due("fined", x.days(1), 1);
        Due.due("rent", x.look(4), 12);
        Due.due("undo", x.undo(), true);
        Due.due("rent", x.look(4), 5);
        Due.due("purse", x.of(1, 1), 7);
        Due.due("fined", x.of(1, 4), 0);
        Due.due("stoops", x.of(1, 3), 0);
        Due.due("marks", x.bird(0, 2), 0);
        Due.due("uses", x.look(2), 2);
        Due.due("state", x.look(8), 1013904223);
        Due.due("undo", x.undo(), true);
        Due.due("state", x.look(8), 0);
        Due.due("purse", x.of(0, 1), 100);
        Due.due("rent", x.look(4), 0);
        Due.tell(x, 0, "leave 0;");
        x.ask(0, 0, 0, 0, 5);
        Due.due("refused is asked too", x.look(13), 2);
        Due.due("refused", x.book(1, 1), 1);
        Due.due("undo", x.undo(), true);
        Due.due("state", x.look(8), 0);
        Due.due("book", x.look(7), 1);
    }

    private static void lawStays() {
        SwallowsAir x = air();
        x.take(0, 0, 0, 0, 9);
        x.days(1);
        Due.tell(x, 0, "fine 77;");
        x.undo();
        Due.due("fine", x.use(0, 10), 77);
    }

    private static void image() {
        SwallowsAir x = air();
        x.take(0, 0, 0, 0, 9);
        Due.due("none", x.image(false), false);
        Due.due("still", x.look(13), 1);
        Due.due("taken", x.image(true), true);
        Due.due("still", x.look(13), 1);
        for (int i = 0; i < 3; i++) {
            x.days(3);
            x.ends(0);
            x.take(0, 0, 5, 6, 9);
            Due.feed(x, "rent 1");
            Due.due("back", x.image(false), true);
            Due.due("day", x.look(6), 0);
            Due.due("uses", x.look(2), 1);
            Due.due("use", x.use(0, 3), 0);
            Due.due("book", x.look(7), 1);
            Due.due("nothing can be undone", x.undo(), false);
            Due.due("the tape is as it is", x.end(6), true);
            Due.due("fault", x.text(0), -1);
            x.image(false);
            Due.due("fault() is as it is", x.fault(1), 6);
        }
        Due.due("number", x.take(0, 0, 5, 6, 9), 1);
        x.image(true);
        x.ends(1);
        x.image(false);
        Due.due("another image", x.look(2), 2);
        x = air();
        x.take(0, 0, 0, 0, 9);
        x.image(true);
        x.undo();
        x.ask(0, 0, 0, 0, 9);
        Due.due("begun with leave", x.book(0, 1), 0);
        x.image(false);
        Due.due("the book as it was", x.book(0, 1), 2);
    }

    private static int[] all(SwallowsAir x) {
        int[] seen = new int[40];
        for (int i = 0; i < 13; i++) {
            seen[i] = x.look(i);
        }
        for (int i = 0; i < 5; i++) {
            seen[13 + i] = x.of(0, i);
        }
        seen[18] = x.bird(0, 0);
        seen[19] = x.bird(0, 1);
        seen[20] = x.bird(0, 2);
        seen[21] = x.lease(1);
        seen[22] = x.beside(0);
        seen[23] = x.strings(0);
        seen[24] = x.eaves(0);
        seen[25] = x.cites(2, 0);
        seen[26] = x.asked(1);
        seen[27] = x.arbiter(0);
        seen[28] = x.use(0, 9);
        seen[29] = x.use(0, 0);
        seen[30] = x.book(0, 1);
        seen[31] = x.book(1, 1);
        seen[32] = x.goes(9, 1);
        return seen;
    }

    private static void imageOfAll() {
        SwallowsAir x = air();
        x.state(12345);
        x.set(5, 0, 100);
        Due.tell(x, 0, "rent 5; leave 1000;");
        Due.tell(x, 1, "on 103 person 0 kite at 8 0 0 for 30;");
        Due.tell(x, 2, "turn 1 to 0;");
        Due.tell(x, 3, "case 1 follows 2;");
        x.wish(0, 0, 50);
        x.kite(0, 9);
        x.kite(9, 0);
        for (int e = 0; e < 6; e++) {
            x.way(0, e, 9);
        }
        x.voice(4, 1023);
        x.point(500, 0, 500, 5);
        x.ask(0, 0, 0, 0, 30);
        x.ask(0, 0, 7, 0, 30);
        x.image(true);
        int[] before = all(x);
        x.state(1);
        x.person(0, 0, 0);
        x.swallow(0, 1);
        for (int what = 0; what < 6; what++) {
            x.set(what, 0, 5);
        }
        Due.tell(x, 0, "rent 6;");
        for (int k = 1; k < 4; k++) {
            Due.tell(x, k, "");
        }
        x.wish(-1, 0, 0);
        x.kite(-1, 0);
        x.way(0, 0, 1);
        x.voice(5, 1023);
        x.voice(4, 0);
        x.point(-1, 0, 0, 0);
        x.nest(0, 8);
        x.ends(0);
        x.set(5, 0, 200);
        x.take(0, 0, 8, 0, 4);
        x.days(1);
        x.set(5, 0, 5);
        int[] between = all(x);
        for (int i = 0; i < 33; i++) {
            boolean mayBeAlike = i == 3 || i == 13 || i == 30 || i == 31 || i == 32;
            Due.due("unlike " + i, mayBeAlike || between[i] != before[i], true);
        }
        x.image(false);
        int[] after = all(x);
        for (int i = 0; i < 33; i++) {
            Due.due("as it was " + i, after[i], before[i]);
        }
    }
}
