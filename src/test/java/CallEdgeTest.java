/** Promises 1 to 19 and 41, sentence by sentence: what a call answers at its edges and just beyond them. */
public final class CallEdgeTest {
    private static final int MIN = Airs.MIN;
    private static final int MAX = Airs.MAX;

    public static void main(String[] args) {
        newObject();
        state();
        person();
        personTen();
        swallow();
        swallowTen();
        setBounds();
        setWho();
        setWhat();
        ask();
        askRefused();
        askCantBe();
        take();
        takeCantBe();
        ends();
        endsNone();
        nest();
        nestNot();
        days();
        daysCantBe();
        daysBeyondLast();
        feedOrder();
        feedMost();
        end();
        endNot();
        text();
        textToldAnew();
        textNoSuch();
        textFault();
        fault();
        of();
        bird();
        birdSees();
        use();
        lease();
        book();
        look();
        Due.close("CallEdgeTest");
    }

    private static void newObject() {
        Due.sentence("Promise 1", "Free air, in winter.");
        SwallowsAir x = new SwallowsAir();
        Due.due("used CELLS", x.look(3), 0);
        Due.due("uses", x.look(2), 0);
        Due.due("SUMMER", x.look(5), 0);
        Due.due("wide(0)", x.wide(0), 80);
        Due.due("through(0, 97, 0)", x.through(0, 97, 0), 16);
    }

    private static void state() {
        Due.sentence("Promise 2", "STATE is told: what it was.");
        SwallowsAir x = new SwallowsAir();
        int was = 0;
        for (int v : new int[] {1, MAX, MIN, -1, 0, 7}) {
            Due.due("state(" + v + ")", x.state(v), was);
            Due.due("look(8)", x.look(8), v);
            was = v;
        }
    }

    private static void person() {
        Due.sentence("Promise 3", "A PERSON: the number; NONE if one can't be");
        int[][] can = {{0, 0, 0}, {7, 0, 0}, {0, 9, 0}, {0, 0, 9999}, {7, 9, 9999}};
        int[][] cant = {{-1, 0, 0}, {8, 0, 0}, {0, -1, 0}, {0, 10, 0}, {0, 0, -1}, {0, 0, 10000},
            {MIN, 0, 0}, {MAX, 0, 0}, {0, MIN, 0}, {0, MAX, 0}, {0, 0, MIN}, {0, 0, MAX}};
        SwallowsAir x = new SwallowsAir();
        x.days(1);
        for (int[] w : cant) {
            String before = Airs.seen(x);
            Due.due("person(" + w[0] + ", " + w[1] + ", " + w[2] + ")", x.person(w[0], w[1], w[2]), -1);
            Due.same("person that can't be", Airs.seen(x), before);
            x = new SwallowsAir();
            x.days(1);
        }
        for (int i = 0; i < can.length; i++) {
            Due.due("person " + i, x.person(can[i][0], can[i][1], can[i][2]), i);
            Due.due("PEOPLE", x.look(0), i + 1);
            Due.due("TALL", x.of(i, 0), can[i][0]);
            Due.due("ROOF", x.of(i, 2), can[i][1]);
            Due.due("PURSE", x.of(i, 1), can[i][2]);
        }
    }

    private static void personTen() {
        Due.sentence("Promise 3", "NONE if .. there are ten");
        SwallowsAir x = new SwallowsAir();
        for (int i = 0; i < 10; i++) {
            Due.due("person " + i, x.person(1, i, i), i);
        }
        Due.due("the eleventh", x.person(1, 1, 1), -1);
        Due.due("PEOPLE", x.look(0), 10);
        Due.due("the tenth's ROOF", x.of(9, 2), 9);
        Due.due("of(10, 0)", x.of(10, 0), -1);
    }

    private static void swallow() {
        Due.sentence("Promise 4", "A SWALLOW: the number; NONE if one can't be");
        int[][] can = {{0, 1}, {9, 1}, {0, 9}, {9, 9}};
        int[][] cant = {{-1, 1}, {10, 1}, {0, 0}, {0, 10}, {0, -1}, {MIN, 1}, {MAX, 1}, {0, MIN}, {0, MAX}};
        SwallowsAir x = new SwallowsAir();
        for (int[] w : cant) {
            x = new SwallowsAir();
            x.days(1);
            String before = Airs.seen(x);
            Due.due("swallow(" + w[0] + ", " + w[1] + ")", x.swallow(w[0], w[1]), -1);
            Due.same("swallow that can't be", Airs.seen(x), before);
        }
        for (int i = 0; i < can.length; i++) {
            Due.due("swallow " + i, x.swallow(can[i][0], can[i][1]), i);
            Due.due("SWALLOWS", x.look(1), i + 1);
            Due.due("NEST", x.bird(i, 0), can[i][0]);
            Due.due("EYES", x.bird(i, 1), can[i][1]);
        }
    }

    private static void swallowTen() {
        Due.sentence("Promise 4", "NONE if .. there are ten");
        SwallowsAir x = new SwallowsAir();
        for (int i = 0; i < 10; i++) {
            Due.due("swallow " + i, x.swallow(i, 2), i);
        }
        Due.due("the eleventh", x.swallow(1, 1), -1);
        Due.due("SWALLOWS", x.look(1), 10);
        Due.due("the tenth's NEST", x.bird(9, 0), 9);
        Due.due("bird(10, 0)", x.bird(10, 0), -1);
    }

    private static int told(SwallowsAir x, int what) {
        return what == 5 ? x.look(6) : what == 4 ? x.bird(1, 1) : x.of(1, what);
    }

    private static void setBounds() {
        String[] names = {"TALL", "PURSE", "ROOF", "STOOPS", "EYES", "DAY"};
        int[] least = {0, 0, 0, 0, 1, 0};
        int[] most = {7, 9999, 9, 7, 9, 9999};
        for (int what = 0; what < 6; what++) {
            Due.sentence("Promise 5", what + " " + names[what] + ": true; false if one can't be");
            SwallowsAir x = Airs.winter();
            for (int v : new int[] {least[what], least[what] + 1, most[what] - 1, most[what]}) {
                Due.due("set to " + v, x.set(what, 1, v), true);
                Due.due("it is", told(x, what), v);
            }
            for (int v : new int[] {least[what] - 1, most[what] + 1, MIN, MAX}) {
                Due.due("set to " + v, x.set(what, 1, v), false);
                Due.due("it stays", told(x, what), most[what]);
            }
            if (what < 5) {
                Due.due("another's stays", what == 4 ? x.bird(0, 1) : x.of(0, what), new int[] {3, 100, 0, 0, 4}[what]);
            }
        }
    }

    private static void setWho() {
        Due.sentence("Promise 5", "of PERSON who, 4 EYES of SWALLOW who, 5 DAY (who not asked)");
        SwallowsAir x = Airs.winter();
        x.person(1, 1, 1);
        for (int what = 0; what < 4; what++) {
            Due.due("the last PERSON", x.set(what, 2, 1), true);
            Due.due("one beyond", x.set(what, 3, 1), false);
            Due.due("one below", x.set(what, -1, 1), false);
            Due.due("set(" + what + ", MIN, 1)", x.set(what, MIN, 1), false);
            Due.due("set(" + what + ", MAX, 1)", x.set(what, MAX, 1), false);
        }
        Due.due("the last SWALLOW", x.set(4, 1, 1), true);
        Due.due("one beyond, though there is such a PERSON", x.set(4, 2, 1), false);
        Due.due("one below", x.set(4, -1, 1), false);
        Due.due("set(4, MAX, 1)", x.set(4, MAX, 1), false);
        int day = 0;
        for (int who : new int[] {-1, 3, 10, MIN, MAX}) {
            day += 7;
            Due.due("set(5, " + who + ", " + day + ")", x.set(5, who, day), true);
            Due.due("DAY", x.look(6), day);
        }
        Due.due("DAY without people", new SwallowsAir().set(5, 0, 9), true);
    }

    private static void setWhat() {
        Due.sentence("Promise 5", "false if .. another what");
        SwallowsAir x = Airs.winter();
        x.days(1);
        String before = Airs.seen(x);
        for (int what : new int[] {-1, 6, 7, MIN, MAX}) {
            Due.due("set(" + what + ", 0, 1)", x.set(what, 0, 1), false);
        }
        Due.same("set of another what", Airs.seen(x), before);
    }

    /** Rows of arguments on their edges that can be, above roofs where nothing is. */
    private static final int[][] CAN = {{0, 0, 0, 0, 1}, {1, 0, 1, 0, 1}, {0, 5, 2, 0, 1}, {0, 0, 9, 0, 1},
        {0, 0, 3, 7, 1}, {0, 0, 4, 77, 1}, {0, 0, 5, 67, 1}, {0, 0, 6, 0, 30}, {1, 5, 8, 11, 30}};

    /** Rows of arguments of which one is just beyond its edge, or far. */
    private static final int[][] CANT = {{-1, 0, 0, 0, 1}, {2, 0, 0, 0, 1}, {0, -1, 0, 0, 1}, {0, 6, 0, 0, 1},
        {0, 0, -1, 0, 1}, {0, 0, 10, 0, 1}, {0, 0, 0, -1, 1}, {0, 0, 0, 8, 1}, {0, 0, 0, 9, 1}, {0, 0, 0, 10, 1},
        {0, 0, 0, 76, 1}, {0, 0, 0, 78, 1}, {0, 0, 0, 80, 1}, {0, 0, 0, 87, 1}, {0, 0, 0, 88, 1}, {0, 0, 0, 100, 1},
        {0, 0, 0, 107, 1}, {0, 0, 0, -10, 1}, {0, 0, 0, 0, 0}, {0, 0, 0, 0, 31}, {0, 0, 0, 0, -1},
        {MIN, 0, 0, 0, 1}, {MAX, 0, 0, 0, 1}, {0, MIN, 0, 0, 1}, {0, MAX, 0, 0, 1}, {0, 0, MIN, 0, 1},
        {0, 0, MAX, 0, 1}, {0, 0, 0, MIN, 1}, {0, 0, 0, MAX, 1}, {0, 0, 0, 0, MIN}, {0, 0, 0, 0, MAX}};

    private static String row(int[] w) {
        return java.util.Arrays.toString(w);
    }

    private static void began(SwallowsAir x, int number, int[] w, int leave) {
        int[] want = {number, w[0], w[1], w[2], w[3] / 10, w[3] % 10, w[4], leave};
        for (int what = 0; what < 8; what++) {
            Due.due("use(" + number + ", " + what + ") of " + row(w), x.use(number, what), want[what]);
        }
    }

    private static void ask() {
        Due.sentence("Promise 6", "To ASK: the number of the use");
        SwallowsAir x = Airs.winter();
        for (int i = 0; i < CAN.length; i++) {
            int[] w = CAN[i];
            Due.due("ask" + row(w), x.ask(w[0], w[1], w[2], w[3], w[4]), i);
            began(x, i, w, 1);
        }
    }

    private static void askRefused() {
        Due.sentence("Promise 6", "NONE refused");
        SwallowsAir x = Airs.summer();
        Airs.law(x, "leave 0;");
        Due.due("ask", x.ask(0, 0, 0, 0, 1), -1);
        Due.due("nothing begins", x.look(2), 0);
        Airs.law(x, "leave 1000;");
        Due.due("the number is not used up", x.ask(0, 0, 0, 0, 1), 0);
    }

    private static void askCantBe() {
        Due.sentence("Promise 6", "NONE - 1 if it can't be");
        for (int[] w : CANT) {
            SwallowsAir x = Airs.summer();
            String before = Airs.seen(x);
            Due.due("ask" + row(w), x.ask(w[0], w[1], w[2], w[3], w[4]), -2);
            Due.same("ask" + row(w), Airs.seen(x), before);
        }
        Due.due("ask without people", new SwallowsAir().ask(0, 0, 0, 0, 1), -2);
    }

    private static void take() {
        Due.sentence("Promise 7", "To TAKE: the number (heights, here and there: 10 times from HEIGHT, and to HEIGHT)");
        SwallowsAir x = Airs.summer();
        for (int i = 0; i < CAN.length; i++) {
            int[] w = CAN[i];
            Due.due("take" + row(w), x.take(w[0], w[1], w[2], w[3], w[4]), i);
            began(x, i, w, 0);
        }
    }

    private static void takeCantBe() {
        Due.sentence("Promise 7", "NONE - 1 if it can't be");
        for (int[] w : CANT) {
            SwallowsAir x = Airs.summer();
            String before = Airs.seen(x);
            Due.due("take" + row(w), x.take(w[0], w[1], w[2], w[3], w[4]), -2);
            Due.same("take" + row(w), Airs.seen(x), before);
        }
        Due.due("take without people", new SwallowsAir().take(0, 0, 0, 0, 1), -2);
    }

    private static void ends() {
        Due.sentence("Promise 8", "To END a use: true");
        SwallowsAir x = Airs.winter();
        Airs.takes(x, 3, 5);
        Due.due("ends(0)", x.ends(0), true);
        Due.due("the others lie as they lay", x.use(0, 0), 1);
        Due.due("the last one, by its number, not its place", x.ends(2), true);
        Due.due("one is left", x.look(2), 1);
        Due.due("that one", x.use(0, 0), 1);
        Due.due("ends(1)", x.ends(1), true);
        Due.due("none is left", x.look(2), 0);
    }

    private static void endsNone() {
        Due.sentence("Promise 8", "false if there is none such");
        SwallowsAir x = Airs.winter();
        Due.due("ends(0) without uses", x.ends(0), false);
        Airs.takes(x, 3, 5);
        x.ends(1);
        String before = Airs.seen(x);
        for (int use : new int[] {1, 3, -1, MIN, MAX}) {
            Due.due("ends(" + use + ")", x.ends(use), false);
        }
        Due.same("ends of none", Airs.seen(x), before);
    }

    private static void nest() {
        Due.sentence("Promise 9", "To NEST: true");
        SwallowsAir x = Airs.winter();
        for (int roof : new int[] {0, 9, 1, 8}) {
            Due.due("nest(0, " + roof + ")", x.nest(0, roof), true);
            Due.due("NEST", x.bird(0, 0), roof);
        }
        Due.due("where another nests", x.bird(1, 0), 8);
        Due.due("the last SWALLOW", x.nest(1, 0), true);
    }

    private static void nestNot() {
        Due.sentence("Promise 9", "false if it is so, or one can't be");
        SwallowsAir x = Airs.winter();
        x.nest(0, 3);
        String before = Airs.seen(x);
        Due.due("it is so", x.nest(0, 3), false);
        for (int roof : new int[] {-1, 10, MIN, MAX}) {
            Due.due("nest(0, " + roof + ")", x.nest(0, roof), false);
        }
        for (int swallow : new int[] {-1, 2, MIN, MAX}) {
            Due.due("nest(" + swallow + ", 0)", x.nest(swallow, 0), false);
        }
        Due.same("nest that can't be", Airs.seen(x), before);
    }

    private static void days() {
        Due.sentence("Promise 10", "DAYS go by (1 .. 60): how many were fined.");
        SwallowsAir x = Airs.summer();
        Due.due("days(1)", x.days(1), 0);
        Due.due("DAY", x.look(6), 101);
        Due.due("days(60)", x.days(60), 0);
        Due.due("DAY", x.look(6), 161);
        x.take(0, 0, 2, 0, 5);
        Due.due("one", x.days(1), 1);
        x.take(0, 0, 2, 0, 5);
        x.take(0, 0, 2, 11, 5);
        x.take(1, 0, 8, 0, 5);
        Due.due("three, of two people", x.days(3), 3);
        Due.due("none any more", x.days(60), 0);
    }

    private static void daysCantBe() {
        Due.sentence("Promise 10", "NONE, and nothing is done, if one can't be");
        for (int n : new int[] {0, -1, 61, MIN, MAX}) {
            SwallowsAir x = Airs.summer();
            x.take(0, 0, 2, 0, 5);
            String before = Airs.seen(x);
            Due.due("days(" + n + ")", x.days(n), -1);
            Due.same("days(" + n + ")", Airs.seen(x), before);
        }
    }

    private static void daysBeyondLast() {
        Due.sentence("Promise 10", "NONE, and nothing is done, if .. DAY would be above 9999.");
        for (int n : new int[] {1, 2, 59, 60}) {
            SwallowsAir x = Airs.winter();
            x.set(5, 0, 9999 - n);
            Due.due("to 9999 by " + n, x.days(n), 0);
            Due.due("DAY", x.look(6), 9999);
            x.set(5, 0, 9999 - n + 1);
            x.take(0, 0, 2, 0, 30);
            String before = Airs.seen(x);
            Due.due("to 10000 by " + n, x.days(n), -1);
            Due.same("days to 10000", Airs.seen(x), before);
        }
    }

    private static void feedOrder() {
        Due.sentence("Promise 11", "Twenty bytes come behind the TAPE, of each number the highest first: how many it has.");
        SwallowsAir x = Airs.winter();
        x.take(0, 0, 0, 0, 1);
        /* "rent 1 + 20 + 300 ; " and "fine 4 - 2 * 1 - 1; " */
        Due.due("feed", x.feed(0x72656e74, 0x2031202b, 0x20323020, 0x2b203330, 0x30203b20), 20);
        Due.due("feed", x.feed(0x66696e65, 0x2034202d, 0x2032202a, 0x2031202d, 0x20313b20), 40);
        Due.due("text(0)", x.text(0), 2);
        Due.due("rent", x.use(0, 9), 321);
        Due.due("fine", x.use(0, 10), 1);
        x.feed(0x20202020, 0x20202020, 0x20202020, 0x20202020, 0x202020ff);
        Due.due("the highest bit is of the byte", x.text(0), -1);
        Due.due("the lowest byte comes last", x.fault(1), 19);
        x.feed(0xff202020, 0x20202020, 0x20202020, 0x20202020, 0x202020ff);
        x.text(0);
        Due.due("the highest byte comes first", x.fault(1), 0);
    }

    private static int blanks(SwallowsAir x) {
        return x.feed(0x20202020, 0x20202020, 0x20202020, 0x20202020, 0x20202020);
    }

    private static void feedMost() {
        Due.sentence("Promise 11", "NONE, and nothing comes, if there would be more than 400.");
        SwallowsAir x = new SwallowsAir();
        for (int i = 1; i <= 20; i++) {
            Due.due("feed", blanks(x), 20 * i);
        }
        Due.due("420 of them", x.feed(0, 0, 0, 0, 0), -1);
        Due.due("it has 400 yet", x.end(400), true);
        Due.due("and no more", x.end(401), false);
        x.end(381);
        Due.due("401 of them", x.feed(0, 0, 0, 0, 0), -1);
        Due.due("it has 381 yet", x.end(381), true);
        Due.due("and no more", x.end(382), false);
        x.end(380);
        Due.due("400 of them", blanks(x), 400);
        Due.due("none of the zeros came", x.text(0), 0);
        for (int i = 1; i <= 20; i++) {
            blanks(x);
        }
        x.end(399);
        Due.due("419 of them", blanks(x), -1);
        x.end(379);
        Due.due("399 of them", blanks(x), 399);
    }

    private static void end() {
        Due.sentence("Promise 12", "The TAPE has its first n bytes alone: true");
        SwallowsAir x = new SwallowsAir();
        Due.due("of none none", x.end(0), true);
        blanks(x);
        Due.due("all", x.end(20), true);
        Due.due("all but one", x.end(19), true);
        Due.due("behind 19", blanks(x), 39);
        Due.due("one", x.end(1), true);
        Due.due("behind one", blanks(x), 21);
        Due.due("none", x.end(0), true);
        Due.due("behind none", blanks(x), 20);
        x.end(0);
        x.feed(0x72656e74, 0x20353b21, 0, 0, 0);
        x.end(7);
        Due.due("the first ones", x.text(0), 1);
    }

    private static void endNot() {
        Due.sentence("Promise 12", "false, changing nothing, if it has not so many, or n is below 0.");
        SwallowsAir x = new SwallowsAir();
        Due.due("of none one", x.end(1), false);
        blanks(x);
        for (int n : new int[] {21, 22, 400, -1, -20, MIN, MAX}) {
            Due.due("end(" + n + ")", x.end(n), false);
        }
        Due.due("twenty as before", blanks(x), 40);
    }

    private static void text() {
        Due.sentence("Promise 13", "The TAPE, empty then, is TEXT k: how many lines.");
        String[] texts = {"rent 1; fine 2; leave 3;", "on 1 person 0 bell at 0 0 0 for 1;", "turn 0 to 1;turn 0 to 0;",
            "case 1 follows 2;case 2 follows 3;case 1 follows 3;"};
        int[] lines = {3, 1, 2, 3};
        for (int k = 0; k < 4; k++) {
            SwallowsAir x = Airs.winter();
            Due.lines(x, k, texts[k], lines[k]);
            Due.due("the tape is empty", x.end(1), false);
            for (int j = 0; j < 4; j++) {
                Due.due("look(" + (9 + j) + ")", x.look(9 + j), j == k ? lines[k] : 0);
            }
            Due.due("the empty tape is a text", x.text(k), 0);
            Due.due("without lines", x.look(9 + k), 0);
        }
    }

    private static void textToldAnew() {
        Due.sentence("Promise 13", "The TAPE .. is TEXT k (each time anew, whatever was told before)");
        SwallowsAir x = Airs.winter();
        x.take(0, 0, 0, 0, 1);
        for (int n = 0; n < 60; n++) {
            Due.due("text(0)", Due.tell(x, 0, "rent " + n + "+1-1 when not 2=1;"), 1);
            Due.due("rent", x.use(0, 9), n);
        }
        x = Airs.winter();
        x.take(0, 0, 0, 0, 1);
        for (int n = 0; n < 10; n++) {
            Due.due("text(0)", Due.tell(x, 0, "rent 900 when 1=2;fine 7*1*1+0;".repeat(8 - n % 8)), 16 - 2 * (n % 8));
            Due.due("rent", x.use(0, 9), 1);
            Due.due("fine", x.use(0, 10), 7);
        }
        x = Airs.winter();
        for (int n = 0; n < 20; n++) {
            int roof = n % 10;
            Due.due("text(2)", Due.tell(x, 2, "turn " + roof + " to " + n % 2 + ";"), 1);
            Due.due("lease", x.lease(roof), n % 2);
            Due.due("the one before", x.lease((roof + 9) % 10), -1);
            int one = n % 16;
            Due.due("text(3)", Due.tell(x, 3, "case " + one + " follows " + (one + 1) % 16 + ";"), 1);
            Due.due("FOUNDS", x.cites((one + 1) % 16, 0), 1 << one);
            Due.due("the one before", x.cites(one, 0), 0);
        }
        Due.due("text(3)", x.text(3), 0);
        for (int n = 0; n < 16; n++) {
            Due.due("FOUNDS of " + n, x.cites(n, 0), 0);
            Due.due("ORDER of " + n, x.cites(n, 1), n);
        }
    }

    private static void textNoSuch() {
        Due.sentence("Promise 13", "NONE: no such one (fault() tells 0)");
        for (int k : new int[] {-1, 4, 5, MIN, MAX}) {
            SwallowsAir x = Airs.winter();
            Due.faulty(x, 0, "rent", 1, 4);
            String before = Airs.seen(x);
            Due.due("text(" + k + ")", Due.tell(x, k, "rent 1;"), -1);
            Due.due("fault(0)", x.fault(0), 0);
            Due.due("fault(1)", x.fault(1), -1);
            Due.same("no text", Airs.seen(x), before);
            Due.due("the tape is empty", x.end(1), false);
        }
    }

    private static void textFault() {
        Due.sentence("Promise 13", "or a FAULT (it stays as it was).");
        String[] good = {"rent 1;", "on 2 person 0 bell at 0 0 0 for 9;", "turn 0 to 1;", "case 2 follows 1;"};
        String[] bad = {"rent 2;rent", "on 2 person 0 bell at 1 0 0 for 9;on", "turn 1 to 0;turn", "case 3 follows 1;case"};
        for (int k = 0; k < 4; k++) {
            SwallowsAir x = Airs.winter();
            x.take(0, 0, 0, 77, 9);
            Due.lines(x, k, good[k], 1);
            x.days(1);
            String before = Airs.seen(x);
            Due.faulty(x, k, bad[k], 1, bad[k].length());
            Due.same("a faulty text", Airs.seen(x), before);
            Due.due("the tape is empty", x.end(1), false);
        }
    }

    private static void fault() {
        Due.sentence("Promise 14", "Of the latest text() what 0 the FAULT (0 without one), 1 its place (NONE).");
        SwallowsAir x = Airs.winter();
        Due.faulty(x, 0, "rent 1/0;", 2, 7);
        Due.due("it stays told", x.fault(0), 2);
        Due.faulty(x, 0, "rent 1 when (((((((((", 3, 20);
        Due.faulty(x, 3, ";", 1, 0);
        Due.lines(x, 3, "", 0);
        Due.faulty(x, 3, "case", 1, 4);
        Due.lines(x, 0, "rent 1;", 1);
        Due.sentence("Promise 14", "NONE for another what.");
        Due.faulty(x, 0, "rent 1/0;", 2, 7);
        for (int what : new int[] {-1, 2, MIN, MAX}) {
            Due.due("fault(" + what + ")", x.fault(what), -1);
        }
    }

    private static void of() {
        Due.sentence("Promise 15", "Of a PERSON what 0 TALL, 1 PURSE, 2 ROOF, 3 STOOPS, 4 FINED.");
        SwallowsAir x = Airs.summer();
        x.take(1, 0, 2, 0, 1);
        x.days(1);
        x.set(2, 1, 6);
        int[] want = {4, 2, 6, 1, 5};
        for (int what = 0; what < 5; what++) {
            Due.due("of(1, " + what + ")", x.of(1, what), want[what]);
        }
        Due.sentence("Promise 15", "NONE if there is none such, or another what.");
        for (int what : new int[] {-1, 5, MIN, MAX}) {
            Due.due("of(1, " + what + ")", x.of(1, what), -1);
        }
        for (int person : new int[] {-1, 2, 10, MIN, MAX}) {
            Due.due("of(" + person + ", 0)", x.of(person, 0), -1);
        }
        Due.due("of(0, 0) without people", new SwallowsAir().of(0, 0), -1);
    }

    private static void bird() {
        Due.sentence("Promise 16", "Of a SWALLOW what 0 NEST, 1 EYES, 2 MARKS");
        SwallowsAir x = Airs.summer();
        x.take(1, 0, 8, 0, 1);
        x.days(1);
        int[] want = {8, 1, 1};
        for (int what = 0; what < 3; what++) {
            Due.due("bird(1, " + what + ")", x.bird(1, what), want[what]);
        }
        Due.sentence("Promise 16", "NONE if there is none such, or another what.");
        for (int what : new int[] {-1, 3, 9, 20, 21, MIN, MAX}) {
            Due.due("bird(1, " + what + ")", x.bird(1, what), -1);
        }
        for (int swallow : new int[] {-1, 2, 10, MIN, MAX}) {
            Due.due("bird(" + swallow + ", 0)", x.bird(swallow, 0), -1);
            Due.due("bird(" + swallow + ", 10)", x.bird(swallow, 10), -1);
        }
        Due.due("bird(0, 0) without swallows", new SwallowsAir().bird(0, 0), -1);
    }

    private static void birdSees() {
        Due.sentence("Promise 16", "10 + r whether it sees ROOF r (1, 0)");
        SwallowsAir x = Airs.winter();
        int[] first = {0, 1, 1, 1, 0, 0, 0, 0, 0, 0};
        int[] second = {0, 0, 0, 0, 0, 0, 0, 0, 1, 0};
        for (int r = 0; r < 10; r++) {
            Due.due("bird(0, 10 + " + r + ")", x.bird(0, 10 + r), first[r]);
            Due.due("bird(1, 10 + " + r + ")", x.bird(1, 10 + r), second[r]);
        }
    }

    private static void use() {
        Due.sentence("Promise 17", "Of use i (as they lie, by number) what 0 its number, 1 PERSON, .. 10 fine.");
        SwallowsAir x = Airs.winter();
        x.take(0, 0, 0, 0, 1);
        x.take(0, 1, 3, 77, 30);
        x.ask(1, 4, 2, 36, 9);
        x.ends(0);
        int[][] want = {{1, 0, 1, 3, 7, 7, 30, 0, 380, 37, 150}, {2, 1, 4, 2, 3, 6, 9, 1, 340, 15, 45}};
        for (int i = 0; i < 2; i++) {
            for (int what = 0; what < 11; what++) {
                Due.due("use(" + i + ", " + what + ")", x.use(i, what), want[i][what]);
            }
        }
        Due.sentence("Promise 17", "NONE if there is none such, or another what.");
        for (int i : new int[] {-1, 2, 16, MIN, MAX}) {
            Due.due("use(" + i + ", 0)", x.use(i, 0), -1);
            Due.due("use(" + i + ", 10)", x.use(i, 10), -1);
        }
        for (int what : new int[] {-1, 11, 12, MIN, MAX}) {
            Due.due("use(0, " + what + ")", x.use(0, what), -1);
        }
        Due.due("use(0, 0) without uses", new SwallowsAir().use(0, 0), -1);
    }

    private static void lease() {
        Due.sentence("Promise 18", "LEASE of a ROOF: the SWALLOW; NONE if none, or there is none such.");
        SwallowsAir x = Airs.winter();
        for (int roof : new int[] {0, 9}) {
            Due.due("lease(" + roof + ") untold", x.lease(roof), -1);
        }
        Due.lines(x, 2, "turn 0 to 1; turn 9 to 0;", 2);
        int[] want = {1, -1, -1, -1, -1, -1, -1, -1, -1, 0};
        for (int roof = 0; roof < 10; roof++) {
            Due.due("lease(" + roof + ")", x.lease(roof), want[roof]);
        }
        for (int roof : new int[] {-1, 10, MIN, MAX}) {
            Due.due("lease(" + roof + ")", x.lease(roof), -1);
        }
        Due.lines(x, 2, "turn 1 to 1;", 1);
        Due.due("another LEASE has no turn for it", x.lease(0), -1);
    }

    private static void book() {
        Due.sentence("Promise 19", "Of line i of THE BOOK what 0 DAY, 1 what, 2 which, 3 how much.");
        SwallowsAir x = Airs.winter();
        x.set(5, 0, 40);
        x.ask(0, 0, 0, 0, 1);
        x.take(1, 0, 1, 0, 1);
        int[][] want = {{40, 0, 0, 0}, {40, 2, 1, 1}};
        for (int i = 0; i < 2; i++) {
            for (int what = 0; what < 4; what++) {
                Due.due("book(" + i + ", " + what + ")", x.book(i, what), want[i][what]);
            }
        }
        Due.sentence("Promise 19", "NONE if there is none such, or another what.");
        for (int i : new int[] {-1, 2, 150, MIN, MAX}) {
            Due.due("book(" + i + ", 0)", x.book(i, 0), -1);
        }
        for (int what : new int[] {-1, 4, MIN, MAX}) {
            Due.due("book(0, " + what + ")", x.book(0, what), -1);
        }
        Due.due("book(0, 0) without lines", new SwallowsAir().book(0, 0), -1);
    }

    private static void look() {
        Due.sentence("Promise 41", "What 0 PEOPLE, 1 SWALLOWS, 2 uses, .. 13 what can be undone. (STATE as it is.)");
        SwallowsAir x = new SwallowsAir();
        for (int what = 0; what < 14; what++) {
            Due.due("look(" + what + ") of a new one", x.look(what), 0);
        }
        x = Airs.summer();
        x.swallow(0, 1);
        x.state(-5);
        Due.lines(x, 0, "leave 1000; rent 9; fine 1; fine 2;", 4);
        Due.lines(x, 1, "on 9 person 0 bell at 0 0 0 for 1;", 1);
        Due.lines(x, 2, "turn 1 to 1; turn 1 to 0;", 2);
        Due.lines(x, 3, "case 1 follows 2; case 2 follows 3; case 1 follows 3;", 3);
        x.take(0, 0, 0, 5, 30);
        x.take(0, 0, 5, 0, 30);
        x.ask(0, 0, 5, 11, 30);
        x.ends(1);
        int[] want = {2, 3, 2, 7, 9, 1, 100, 4, 1664525 * -5 + 1013904223, 4, 1, 2, 3, 4};
        for (int what = 0; what < 14; what++) {
            Due.due("look(" + what + ")", x.look(what), want[what]);
            Due.due("look(" + what + ") again", x.look(what), want[what]);
        }
        Due.sentence("Promise 41", "NONE for another what.");
        for (int what : new int[] {-1, 14, 15, MIN, MAX}) {
            Due.due("look(" + what + ")", x.look(what), -1);
        }
    }
}
