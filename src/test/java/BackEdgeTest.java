/** UNDO and THE IMAGE ("Terms", part 4; promises 39 and 40), sentence by sentence. */
public final class BackEdgeTest {
    public static void main(String[] args) {
        undo();
        undoNothing();
        undoDay();
        undoAsking();
        undoTaking();
        undoEnding();
        undoNesting();
        latestFirst();
        notUndoneYet();
        stateAndBook();
        sixAreKept();
        sixOfOneCall();
        forgets();
        refusedForgetsNothing();
        keeps();
        imageDoesNot();
        image();
        imageNone();
        imageOfAll();
        imageOfTheBook();
        imageOfRows();
        imageButTape();
        imageButUndo();
        imageMoreThanOnce();
        imageTakenAgain();
        Due.close("BackEdgeTest");
    }

    private static void undo() {
        Due.sentence("Promise 39", "UNDO: true");
        SwallowsAir x = Airs.winter();
        x.days(1);
        Due.due("undo()", x.undo(), true);
        Due.due("DAY", x.look(6), 0);
        Due.sentence("Promise 39", "false if there is nothing.");
        String before = Airs.seen(x);
        Due.due("undo()", x.undo(), false);
        Due.same("undo of nothing", Airs.seen(x), before);
    }

    private static void undoNothing() {
        Due.sentence("Promise 39", "false if there is nothing (of a new one)");
        Due.due("undo()", new SwallowsAir().undo(), false);
        SwallowsAir x = Airs.winter();
        x.days(0);
        x.days(61);
        x.ask(0, 0, 0, 0, 0);
        x.take(0, 6, 0, 0, 1);
        x.ends(0);
        x.nest(0, 2);
        Due.due("look(13)", x.look(13), 0);
        Due.due("what can't be is nothing", x.undo(), false);
    }

    /** What is seen but how much can be undone. */
    private static String state(SwallowsAir x) {
        String seen = Airs.seen(x);
        String[] parts = seen.split(" ", 15);
        parts[13] = "";
        return String.join(" ", parts);
    }

    private interface Call {
        boolean on(SwallowsAir x);
    }

    private static SwallowsAir busy() {
        SwallowsAir x = Airs.summer();
        Airs.law(x, "leave 600; rent 3; fine 4;");
        Due.lines(x, 1, "on 100 person 1 kite at 9 0 0 for 9;", 1);
        x.take(0, 0, 2, 0, 9);
        x.take(1, 0, 5, 0, 1);
        x.ask(0, 0, 4, 0, 9);
        return x;
    }

    private static void goesBack(String what, Call call) {
        SwallowsAir x = busy();
        String before = state(x);
        int kept = x.look(13);
        Due.due(what + " is done", call.on(x), true);
        Due.due("one more can be undone", x.look(13), kept + 1);
        x = busy();
        call.on(x);
        Due.due("undo()", x.undo(), true);
        Due.same(what + " goes back", state(x), before);
        Due.due("one less can be undone", x.look(13), kept);
    }

    private static void undoDay() {
        Due.sentence("Terms 4", "UNDO: the latest DAY .. goes back");
        goesBack("a DAY", x -> x.days(1) == 1);
        SwallowsAir x = Airs.winter();
        x.set(5, 0, 270);
        x.set(3, 0, 5);
        x.days(1);
        Due.due("STOOPS on the first DAY of WINTER", x.of(0, 3), 0);
        x.undo();
        Due.due("STOOPS go back", x.of(0, 3), 5);
        Due.due("DAY", x.look(6), 270);
    }

    private static void undoAsking() {
        Due.sentence("Terms 4", "UNDO: the latest .. ASKING .. goes back");
        goesBack("an ASKING", x -> {
            x.look(0);
            return x.ask(0, 3, 7, 77, 30) >= -1;
        });
        SwallowsAir x = Airs.summer();
        Airs.law(x, "leave 0;");
        x.state(5);
        Due.due("refused", x.ask(0, 0, 0, 0, 1), -1);
        Due.due("it is one too", x.look(13), 1);
        x.undo();
        Due.due("STATE", x.look(8), 5);
        Due.due("lines", x.look(7), 0);
    }

    private static void undoTaking() {
        Due.sentence("Terms 4", "UNDO: the latest .. TAKING .. goes back");
        goesBack("a TAKING", x -> x.take(0, 3, 7, 77, 30) >= 0);
        SwallowsAir x = Airs.winter();
        Due.due("number", x.take(0, 0, 0, 0, 1), 0);
        x.undo();
        Due.due("the number is free again", x.take(1, 0, 0, 0, 1), 0);
    }

    private static void undoEnding() {
        Due.sentence("Terms 4", "UNDO: the latest .. ENDING .. goes back");
        goesBack("an ENDING", x -> x.ends(0));
        goesBack("another ENDING", x -> x.ends(1));
    }

    private static void undoNesting() {
        Due.sentence("Terms 4", "UNDO: the latest .. NESTING .. goes back");
        goesBack("a NESTING", x -> x.nest(1, 0));
    }

    private static void latestFirst() {
        Due.sentence("Terms 4", "the latest .. not undone yet");
        SwallowsAir x = Airs.winter();
        x.nest(0, 3);
        x.nest(0, 4);
        x.days(1);
        x.nest(0, 5);
        int[] nests = {4, 4, 3, 2};
        int[] days = {1, 0, 0, 0};
        for (int i = 0; i < 4; i++) {
            Due.due("undo()", x.undo(), true);
            Due.due("NEST", x.bird(0, 0), nests[i]);
            Due.due("DAY", x.look(6), days[i]);
        }
        Due.due("no more", x.undo(), false);
    }

    private static void notUndoneYet() {
        Due.sentence("Terms 4", "not undone yet (what was undone is not, and what comes then is)");
        SwallowsAir x = Airs.winter();
        x.nest(0, 3);
        x.nest(0, 4);
        x.undo();
        x.nest(0, 7);
        Due.due("can be undone", x.look(13), 2);
        x.undo();
        Due.due("NEST", x.bird(0, 0), 3);
        x.undo();
        Due.due("NEST", x.bird(0, 0), 2);
        Due.due("no more", x.undo(), false);
    }

    private static void stateAndBook() {
        Due.sentence("Terms 4", "goes back (STATE, THE BOOK, too)");
        SwallowsAir x = Airs.summer();
        Airs.law(x, "leave 1000;");
        x.state(77);
        x.ask(0, 0, 0, 0, 9);
        x.ask(0, 0, 1, 0, 9);
        int once = 1664525 * 77 + 1013904223;
        Due.due("lines", x.look(7), 2);
        x.undo();
        Due.due("STATE", x.look(8), once);
        Due.due("lines", x.look(7), 1);
        Due.due("book(1, 0)", x.book(1, 0), -1);
        x.undo();
        Due.due("STATE", x.look(8), 77);
        Due.due("lines", x.look(7), 0);
        x.take(1, 0, 1, 0, 9);
        Due.due("another line in its place", x.book(0, 1), 2);
    }

    private static void sixAreKept() {
        Due.sentence("Terms 4", "6 are kept");
        for (int done = 0; done <= 9; done++) {
            SwallowsAir x = Airs.winter();
            for (int i = 0; i < done; i++) {
                x.nest(0, i < 2 ? 3 + i : i + 1 - 3 * (i % 2));
            }
            int kept = Math.min(6, done);
            Due.due("behind " + done, x.look(13), kept);
            for (int i = 0; i < kept; i++) {
                Due.due("undo()", x.undo(), true);
                Due.due("left", x.look(13), kept - 1 - i);
            }
            Due.due("no more", x.undo(), false);
        }
        SwallowsAir x = Airs.winter();
        x.days(7);
        for (int i = 0; i < 6; i++) {
            x.undo();
        }
        Due.due("the seventh before is not", x.look(6), 1);
        x.days(1);
        Due.due("then one is", x.look(13), 1);
        x.undo();
        Due.due("DAY", x.look(6), 1);
    }

    private static void sixOfOneCall() {
        Due.sentence("Terms 4", "the latest DAY (each of those that go by in one call)");
        for (int n : new int[] {1, 5, 6, 7, 60}) {
            SwallowsAir x = Airs.winter();
            x.days(n);
            Due.due("behind days(" + n + ")", x.look(13), Math.min(6, n));
            x.undo();
            Due.due("DAY", x.look(6), n - 1);
        }
    }

    private static void forgets(String what, Call call) {
        SwallowsAir x = Airs.winter();
        x.take(0, 0, 0, 0, 9);
        x.image(true);
        x.days(2);
        Due.due(what + " is done", call.on(x), true);
        Due.due(what + " forgets: look(13)", x.look(13), 0);
        String before = Airs.seen(x);
        Due.due(what + " forgets: undo()", x.undo(), false);
        Due.same("undo behind " + what, Airs.seen(x), before);
    }

    private static void forgets() {
        Due.sentence("Terms 4", "whatever else is told .. forgets them");
        forgets("state", x -> x.state(0) == 0);
        forgets("person", x -> x.person(0, 0, 0) == 2);
        forgets("swallow", x -> x.swallow(0, 1) == 2);
        forgets("TALL", x -> x.set(0, 0, 3));
        forgets("PURSE", x -> x.set(1, 0, 100));
        forgets("ROOF", x -> x.set(2, 0, 0));
        forgets("STOOPS", x -> x.set(3, 0, 0));
        forgets("EYES", x -> x.set(4, 0, 4));
        forgets("DAY", x -> x.set(5, 0, 2));
        forgets("PETITIONS", x -> Due.tell(x, 1, "on 9 person 0 kite at 0 0 0 for 1;") == 1);
        forgets("empty PETITIONS", x -> x.text(1) == 0);
        forgets("LEASE", x -> Due.tell(x, 2, "turn 1 to 1;") == 1);
        forgets("an empty LEASE", x -> x.text(2) == 0);
        forgets("THE IMAGE gone back to", x -> x.image(false));
    }

    private static void keeps(String what, Call call) {
        SwallowsAir x = Airs.winter();
        x.take(0, 0, 0, 0, 9);
        x.days(2);
        Due.due(what + " is done", call.on(x), true);
        Due.due(what + " does not forget: look(13)", x.look(13), 3);
        Due.due("undo()", x.undo(), true);
        Due.due("DAY", x.look(6), 1);
        x.undo();
        x.undo();
        Due.due("uses", x.look(2), 0);
    }

    private static void refusedForgetsNothing() {
        Due.sentence("Terms 4", "whatever else is told .. forgets them (what can't be is not told)");
        keeps("a person that can't be", x -> x.person(8, 0, 0) == -1);
        keeps("a swallow that can't be", x -> x.swallow(0, 0) == -1);
        keeps("set that can't be", x -> !x.set(0, 2, 0) && !x.set(0, 0, 8) && !x.set(6, 0, 0));
        keeps("PETITIONS with a FAULT", x -> Due.tell(x, 1, "on") == -1);
        keeps("a LEASE with a FAULT", x -> Due.tell(x, 2, "turn") == -1);
        keeps("no TEXT", x -> x.text(4) == -1 && x.text(-1) == -1);
        keeps("no IMAGE", x -> !x.image(false));
        keeps("an asking that can't be", x -> x.ask(0, 0, 0, 0, 1) == -2);
        keeps("a nesting where it is", x -> !x.nest(0, 2));
        keeps("days that can't be", x -> x.days(61) == -1);
    }

    private static void keeps() {
        Due.sentence("Terms 4", "but THE LAW, CITES and what is told for thought (BESIDE, STRINGS, EAVES, ASKED, ARBITER)");
        keeps("THE LAW", x -> Due.tell(x, 0, "rent 1;") == 1);
        keeps("an empty LAW", x -> x.text(0) == 0);
        keeps("CITES", x -> Due.tell(x, 3, "case 1 follows 2;") == 1);
        keeps("a wish", x -> x.wish(1, 1, 1) == 1);
        keeps("no wish", x -> x.wish(-1, 1, 1) == 0);
        keeps("a kite", x -> x.kite(1, 1) == 1);
        keeps("no kite", x -> x.kite(-1, 1) == 0);
        keeps("a way", x -> x.way(1, 1, 1));
        keeps("a voice", x -> x.voice(1, 1));
        keeps("a point", x -> x.point(1, 1, 1, 1) == 1);
        keeps("no point", x -> x.point(-1, 1, 1, 1) == 0);
        keeps("bytes of the TAPE", x -> x.feed(0, 0, 0, 0, 0) == 20 && x.end(0));
        keeps("thoughts", x -> x.goes(60, 0) == 0 && x.would(0, 0, 1, 0, 1) == 800 && x.wide(0) == 72);
        SwallowsAir x = Airs.winter();
        x.days(1);
        Due.tell(x, 0, "rent 1;");
        Due.tell(x, 3, "case 1 follows 2;");
        x.wish(1, 1, 4);
        x.kite(1, 1);
        x.way(0, 0, 1);
        x.voice(0, 1023);
        x.point(6, 6, 6, 1);
        x.undo();
        Due.due("THE LAW stays", x.look(9), 1);
        Due.due("CITES stay", x.cites(2, 0), 2);
        Due.due("BESIDE stays", x.beside(0), 4);
        Due.due("STRINGS stay", x.strings(1), 1);
        Due.due("EAVES stay", x.eaves(10), 1);
        Due.due("ASKED stays", x.asked(0), 1);
        Due.due("ARBITER stays", x.arbiter(0), 6);
    }

    private static void imageDoesNot() {
        Due.sentence("Terms 4", "(the taking of THE IMAGE does not)");
        keeps("the taking of THE IMAGE", x -> x.image(true));
        keeps("the taking twice", x -> x.image(true) && x.image(true));
    }

    private static void image() {
        Due.sentence("Promise 40", "THE IMAGE is taken (true), or gone back to (false): true");
        SwallowsAir x = Airs.winter();
        Due.due("image(true)", x.image(true), true);
        x.days(3);
        Due.due("image(false)", x.image(false), true);
        Due.due("DAY", x.look(6), 0);
    }

    private static void imageNone() {
        Due.sentence("Promise 40", "false if there is none.");
        SwallowsAir x = Airs.winter();
        x.days(3);
        String before = Airs.seen(x);
        Due.due("image(false)", x.image(false), false);
        Due.same("image(false)", Airs.seen(x), before);
        Due.due("of a new one", new SwallowsAir().image(false), false);
    }

    private static SwallowsAir told() {
        SwallowsAir x = Airs.summer();
        x.state(99);
        Due.tell(x, 0, "leave 1000; rent 2; fine 3;");
        Due.tell(x, 1, "on 101 person 0 kite at 7 0 0 for 9;");
        Due.tell(x, 2, "turn 9 to 1;");
        Due.tell(x, 3, "case 2 follows 1;");
        x.set(3, 0, 2);
        x.wish(1, 5, 7);
        x.kite(1, 9);
        x.kite(2, 8);
        x.way(0, 0, 9);
        x.voice(0, 31);
        x.point(5, 9, 5, 3);
        x.ask(0, 0, 0, 0, 9);
        x.take(1, 0, 2, 0, 9);
        return x;
    }

    private static void imageOfAll(String what, Call change) {
        SwallowsAir x = told();
        x.image(true);
        String before = state(x);
        x = told();
        x.image(true);
        change.on(x);
        Due.due(what + " changed something", state(x).equals(before), false);
        x = told();
        x.image(true);
        change.on(x);
        x.image(false);
        Due.same(what + " is as it was", state(x), before);
    }

    private static void imageOfAll() {
        Due.sentence("Terms 4", "THE IMAGE: all that is and was told .. as it was when it was taken");
        imageOfAll("state", x -> x.state(1) == 0);
        imageOfAll("person", x -> x.person(1, 1, 1) == 2);
        imageOfAll("swallow", x -> x.swallow(1, 1) == 2);
        for (int what = 0; what < 6; what++) {
            int w = what;
            imageOfAll("set " + what, x -> x.set(w, 0, 6));
        }
        imageOfAll("asking", x -> x.ask(0, 0, 9, 0, 1) == 0);
        imageOfAll("taking", x -> x.take(0, 0, 9, 0, 1) == 0);
        imageOfAll("ending", x -> x.ends(0));
        imageOfAll("nesting", x -> x.nest(0, 9));
        imageOfAll("days", x -> x.days(2) == 1);
        imageOfAll("undoing", x -> x.undo());
        imageOfAll("THE LAW", x -> Due.tell(x, 0, "leave 5;") == 1);
        imageOfAll("PETITIONS", x -> x.text(1) == 0);
        imageOfAll("LEASE", x -> x.text(2) == 0);
        imageOfAll("CITES", x -> x.text(3) == 0);
        imageOfAll("a wish", x -> x.wish(9, 9, 9) == 2);
        imageOfAll("no wish", x -> x.wish(-1, 9, 9) == 0);
        imageOfAll("a kite", x -> x.kite(9, 0) == 3);
        imageOfAll("no kite", x -> x.kite(-1, 0) == 0);
        imageOfAll("a way", x -> x.way(0, 0, 0));
        imageOfAll("a voice", x -> x.voice(9, 1023));
        imageOfAll("a point", x -> x.point(9, 9, 9, 9) == 2);
        imageOfAll("no point", x -> x.point(-1, 9, 9, 9) == 0);
        SwallowsAir x = told();
        x.image(true);
        x.take(0, 0, 9, 0, 9);
        x.image(false);
        Due.due("the next number too", x.take(0, 0, 8, 0, 9), 2);
        x = told();
        x.image(true);
        x.wish(-1, 0, 0);
        x.wish(1, 1, 1);
        x.image(false);
        Due.due("the wish that was", x.beside(0), 7);
        Due.due("how many there were", x.wish(50, 50, 1), 2);
    }

    private static void imageOfTheBook() {
        Due.sentence("Terms 4", "THE IMAGE: all that is .. (each line of THE BOOK)");
        for (int lines : new int[] {7, 31, 150}) {
            SwallowsAir x = Airs.winter();
            for (int i = 0; x.look(7) + 1 < lines; i++) {
                x.take(0, 0, 0, 0, 9);
                x.ends(i);
            }
            if (x.look(7) < lines) {
                x.take(0, 0, 0, 0, 9);
            }
            int[] before = new int[6];
            for (int i = 0; i < 6; i++) {
                before[i] = x.book(lines - 6 + i, 1);
            }
            Due.due("lines", x.look(7), lines);
            x.image(true);
            for (int i = 0; i < 6; i++) {
                x.undo();
            }
            for (int i = 0; i < 3; i++) {
                x.ask(1, 0, 5 + i, 0, 9);
                x.ask(1, 0, 5 + i, 77, 9);
            }
            Due.due("another line there", x.book(lines - 1, 1), 0);
            x.image(false);
            for (int i = 0; i < 6; i++) {
                Due.due("line " + i + " of the last six", x.book(lines - 6 + i, 1), before[i]);
            }
        }
    }

    private static void imageOfRows() {
        Due.sentence("Terms 4", "THE IMAGE: all that .. was told (each wish, kite and point)");
        SwallowsAir x = Airs.winter();
        for (int i = 0; i < 8; i++) {
            x.wish(i, i, i + 1);
            x.point(i + 1, 0, i + 1, 1);
            x.kite(i, 50 - i);
        }
        x.image(true);
        x.wish(-1, 0, 0);
        x.point(-1, 0, 0, 0);
        x.kite(-1, 0);
        for (int i = 0; i < 8; i++) {
            x.wish(5, 5, 50 + i);
            x.point(0, 900, 900, 2);
            x.kite(i, i);
        }
        Due.due("worth", x.beside(0), 57);
        Due.due("sum", x.arbiter(0), 14400);
        Due.due("crossings", x.strings(0), 0);
        x.image(false);
        Due.due("worth as it was", x.beside(0), 36);
        Due.due("sum as it was", x.arbiter(0), 36);
        Due.due("to the first as it was", x.arbiter(1), 8);
        Due.due("crossings as they were", x.strings(0), 28);
    }

    private static void imageButTape() {
        Due.sentence("Terms 4", "but the TAPE, fault()");
        SwallowsAir x = Airs.winter();
        x.feed(0x20202020, 0x20202020, 0x20202020, 0x20202020, 0x20202020);
        x.image(true);
        x.feed(0x20202020, 0x20202020, 0x20202020, 0x20202020, 0x20202020);
        x.image(false);
        Due.due("the TAPE has 40 yet", x.end(40), true);
        Due.due("and no more", x.end(41), false);
        Due.due("text(0)", x.text(0), 0);
        x.image(true);
        Due.faulty(x, 0, "rent 1/0;", 2, 7);
        x.image(false);
        Due.due("fault(0)", x.fault(0), 2);
        Due.due("fault(1)", x.fault(1), 7);
        x.image(true);
        x.text(0);
        x.image(false);
        Due.due("fault(0)", x.fault(0), 0);
    }

    private static void imageButUndo() {
        Due.sentence("Terms 4", "and what can be undone (nothing then)");
        SwallowsAir x = Airs.winter();
        x.days(3);
        x.image(true);
        Due.due("at the taking", x.look(13), 3);
        x.days(1);
        x.image(false);
        Due.due("look(13)", x.look(13), 0);
        Due.due("undo()", x.undo(), false);
        Due.due("DAY", x.look(6), 3);
        x.days(1);
        Due.due("what comes then", x.undo(), true);
        Due.due("DAY", x.look(6), 3);
        Due.due("no more", x.undo(), false);
    }

    private static void imageMoreThanOnce() {
        Due.sentence("Terms 4", "gone back to it may be more than once.");
        SwallowsAir x = told();
        x.image(true);
        String before = "";
        for (int i = 0; i < 3; i++) {
            Due.due("image(false)", x.image(false), true);
            String seen = state(x);
            if (i > 0) {
                Due.same("as before", seen, before);
            }
            before = seen;
            x.days(10);
            x.ends(0);
            x.text(0);
            x.text(1);
            x.wish(-1, 0, 0);
            x.wish(1, 1, 1 + i);
            x.take(0, 0, 9, 0, 9);
            x.take(0, 0, 8, 0, 9);
            x.take(0, 0, 3, 0, 9);
        }
        x.image(false);
        Due.due("uses", x.look(2), 2);
        x.image(false);
        Due.due("at once again", x.look(2), 2);
    }

    private static void imageTakenAgain() {
        Due.sentence("Terms 4", "as it was when it was taken (the latest one)");
        SwallowsAir x = Airs.winter();
        x.image(true);
        x.days(5);
        x.image(true);
        x.days(5);
        x.image(false);
        Due.due("DAY", x.look(6), 5);
        x.image(false);
        Due.due("not an earlier one", x.look(6), 5);
        /* What is undone and written anew behind the taking does not reach the book of the image. */
        x = Airs.winter();
        x.take(0, 0, 0, 0, 9);
        x.image(true);
        x.undo();
        x.ask(1, 0, 0, 0, 9);
        x.image(false);
        Due.due("book(0, 1)", x.book(0, 1), 2);
        Due.due("book(0, 3)", x.book(0, 3), 0);
        x.undo();
        x.ends(0);
        x.image(false);
        Due.due("lines", x.look(7), 1);
    }
}
