/** Promises 11 to 14 and 18: the tape, the four texts and their faults. */
public final class TextTest {
    public static void main(String[] args) {
        tape();
        tokens();
        lawFaults();
        lawBrackets();
        lawMeans();
        petitionFaults();
        leaseFaults();
        citeFaults();
        sixteenLines();
        staysAsItWas();
        Due.close("TextTest");
    }

    private static void tape() {
        SwallowsAir x = new SwallowsAir();
        Due.due("end(0)", x.end(0), true);
        Due.due("end(1)", x.end(1), false);
        Due.due("end(-1)", x.end(-1), false);
        for (int i = 1; i <= 20; i++) {
            Due.due("feed " + i, x.feed(0x20202020, 0x20202020, 0x20202020, 0x20202020, 0x20202020), 20 * i);
        }
        Due.due("401st byte", x.feed(0, 0, 0, 0, 0), -1);
        Due.due("end(401)", x.end(401), false);
        Due.due("end(400)", x.end(400), true);
        Due.due("end(381)", x.end(381), true);
        Due.due("too many", x.feed(0, 0, 0, 0, 0), -1);
        Due.due("end(380)", x.end(380), true);
        Due.due("just so many", x.feed(0x20202020, 0x20202020, 0x20202020, 0x20202020, 0x2020207f), 400);
        Due.due("a wrong last byte", x.text(0), -1);
        Due.due("fault(0)", x.fault(0), 1);
        Due.due("fault(1)", x.fault(1), 399);
        Due.due("fault(2)", x.fault(2), -1);
        Due.due("fault(-1)", x.fault(-1), -1);
        Due.due("empty then", x.end(1), false);
        Due.due("feed", x.feed(0x72656e74, 0x20393b20, 0x20202020, 0x20202020, 0x20202020), 20);
        Due.due("highest first", x.text(0), 1);
        Due.due("empty then", x.feed(0, 0, 0, 0, 0), 20);
        Due.due("text(4)", x.text(4), -1);
        Due.due("fault(0)", x.fault(0), 0);
        Due.due("fault(1)", x.fault(1), -1);
        Due.due("text(-1)", x.text(-1), -1);
        Due.due("empty then", x.end(1), false);
        Due.due("the law stays", x.look(9), 1);
    }

    private static void tokens() {
        SwallowsAir x = new SwallowsAir();
        Due.lines(x, 0, "", 0);
        Due.lines(x, 0, " \n \n", 0);
        Due.lines(x, 0, "leave1+2*high/3when1<2;", 1);
        Due.lines(x, 0, "\nrent\n9999\n;\n", 1);
        Due.lines(x, 0, "rent 0000;fine 0012;", 2);
        Due.faulty(x, 0, "rent 00000;", 1, 5);
        Due.faulty(x, 0, "rents 1;", 1, 0);
        Due.faulty(x, 0, "ren 1;", 1, 0);
        Due.faulty(x, 0, " Rent 1;", 1, 1);
        for (char letter : "azAZ".toCharArray()) {
            Due.faulty(x, 0, "rent" + letter + " 1;", 1, 0);
        }
        for (char none : "@[`{_'.:,".toCharArray()) {
            Due.faulty(x, 0, "rent" + none + " 1;", 1, 4);
            Due.faulty(x, 0, "rent 1" + none + ";", 1, 6);
        }
        Due.faulty(x, 0, "rent\t1;", 1, 4);
        Due.faulty(x, 0, "rent 1;\r", 1, 7);
        Due.faulty(x, 0, "rent 1,5;", 1, 6);
        Due.faulty(x, 0, "rent 1;\u00e9", 1, 7);
        Due.faulty(x, 0, "rent 1;\0", 1, 7);
        Due.faulty(x, 0, "rent\u00e9 1;", 1, 4);
        Due.faulty(x, 0, "rent \u00bb1;", 1, 5);
        Due.faulty(x, 0, "rent highday;", 1, 5);
        Due.faulty(x, 0, "rent kite;", 1, 5);
    }

    private static void lawFaults() {
        SwallowsAir x = new SwallowsAir();
        Due.faulty(x, 0, "rent", 1, 4);
        Due.faulty(x, 0, "rent  ", 1, 6);
        Due.faulty(x, 0, "rent 1", 1, 6);
        Due.faulty(x, 0, "rent 1 \n", 1, 8);
        Due.faulty(x, 0, "; rent 1;", 1, 0);
        Due.faulty(x, 0, "rent 1;;", 1, 7);
        Due.faulty(x, 0, "1", 1, 0);
        Due.faulty(x, 0, "when 1=1;", 1, 0);
        Due.faulty(x, 0, "rent 1 2;", 1, 7);
        Due.faulty(x, 0, "rent -1;", 1, 5);
        Due.faulty(x, 0, "rent (1);", 1, 5);
        Due.faulty(x, 0, "rent 1+;", 1, 7);
        Due.faulty(x, 0, "rent 1*/2;", 1, 7);
        Due.faulty(x, 0, "rent 1/high;", 1, 7);
        Due.faulty(x, 0, "rent 1/12345;", 1, 7);
        Due.faulty(x, 0, "rent 1/ 000;", 2, 8);
        Due.faulty(x, 0, "rent 4*0/0*5;", 2, 9);
        Due.lines(x, 0, "rent 0*0/1*0/9999;", 1);
        Due.faulty(x, 0, "rent 1 when;", 1, 11);
        Due.faulty(x, 0, "rent 1 when 1;", 1, 13);
        Due.faulty(x, 0, "rent 1 when 1=;", 1, 14);
        Due.faulty(x, 0, "rent 1 when 1<=2;", 1, 14);
        Due.faulty(x, 0, "rent 1 when 1=1=1;", 1, 15);
        Due.faulty(x, 0, "rent 1 when 1=1 and;", 1, 19);
        Due.faulty(x, 0, "rent 1 when or 1=1;", 1, 12);
        Due.faulty(x, 0, "rent 1 when 1=1 not 1=1;", 1, 16);
        Due.faulty(x, 0, "rent 1 when 1=1 when 1=1;", 1, 16);
        Due.faulty(x, 0, "rent 1 when (1=1;", 1, 16);
        Due.faulty(x, 0, "rent 1 when 1=1);", 1, 15);
        Due.faulty(x, 0, "rent 1 when (1)=1;", 1, 14);
        Due.faulty(x, 0, "rent 1 when 1=(1);", 1, 14);
        Due.faulty(x, 0, "rent 1 when ();", 1, 13);
        Due.faulty(x, 0, "rent 1 when not;", 1, 15);
        Due.faulty(x, 0, "rent 1 when 1/0=1 and 5;", 2, 14);
        Due.faulty(x, 0, "rent 1/0 ! ", 2, 7);
    }

    private static void lawBrackets() {
        SwallowsAir x = new SwallowsAir();
        Due.lines(x, 0, "rent 1 when ((((((((1=1))))))));", 1);
        Due.faulty(x, 0, "rent 1 when (((((((((1=1)))))))));", 3, 20);
        Due.lines(x, 0, "rent 1 when not not not not not not not not 1=1;", 1);
        Due.lines(x, 0, "rent 1 when not (not (not (not (1=1))));", 1);
        Due.faulty(x, 0, "rent 1 when not (not (not (not (not 1=1))));", 3, 32);
        Due.faulty(x, 0, "rent 1 when not (not (not (not ((1=1)))));", 3, 32);
        Due.lines(x, 0, "rent 1 when (1=1) and (1=1) and (1=1) and (1=1) and (1=1) and (1=1) and (1=1)"
                + " and (1=1) and (1=1) and (1=1);", 1);
        Due.lines(x, 0, "rent 1 when not 1=1 or not 1=1 or not 1=1 or not 1=1 or not 1=1 or not 1=1"
                + " or not 1=1 or not 1=1 or not 1=1 or not 1=1;", 1);
        Due.lines(x, 0, "rent 1 when (((((((not 1=1 and not 1=1))))))) and ((((((((1=1))))))));", 1);
        Due.faulty(x, 0, "rent (((((((((1", 1, 5);
        Due.faulty(x, 0, "rent 1 when 1=1 (((((((((1", 1, 16);
        StringBuilder longest = new StringBuilder("rent 11");
        while (longest.length() < 399) {
            longest.append(longest.length() % 2 == 1 ? '+' : '1');
        }
        longest.append(';');
        Due.lines(x, 0, longest.toString(), 1);
        x.person(0, 0, 0);
        x.take(0, 0, 0, 0, 1);
        Due.due("rent", x.use(0, 9), 207);
    }

    private static void rent(SwallowsAir x, String law, int want) {
        Due.lines(x, 0, "rent " + law + ";", 1);
        Due.due(law, x.use(0, 9), want);
    }

    private static void when(SwallowsAir x, String condition, boolean want) {
        Due.lines(x, 0, "fine 7 when " + condition + ";", 1);
        Due.due(condition, x.use(0, 10), want ? 7 : 65);
    }

    /** A use of a washing by a person of tall 6 above roof 2 from 3 to 4 for 13 days, on day 461. */
    private static void lawMeans() {
        SwallowsAir x = new SwallowsAir();
        x.person(1, 0, 500);
        x.person(6, 0, 500);
        x.swallow(2, 1);
        x.swallow(2, 1);
        x.swallow(1, 9);
        x.set(5, 0, 100);
        x.take(1, 0, 1, 0, 3);
        x.days(1);
        x.set(5, 0, 461);
        x.take(1, 1, 2, 34, 13);
        String facts = "kind high days roof tall fined nests summer used day";
        int[] wants = {1, 4, 13, 2, 6, 15, 2, 1, 2, 461};
        for (int i = 0; i < 10; i++) {
            rent(x, facts.split(" ")[i], wants[i]);
        }
        x.set(5, 0, 361);
        rent(x, "summer", 0);
        rent(x, "day", 361);
        rent(x, "1+2*3", 7);
        rent(x, "20-5-4", 11);
        rent(x, "20-5+4", 19);
        rent(x, "7/2*2", 6);
        rent(x, "2*7/2", 7);
        rent(x, "99*99/99/10", 9);
        rent(x, "1-8/3+9", 8);
        rent(x, "0*7-7/2+9", 6);
        Due.lines(x, 0, "rent high*0-7+10;leave 500+high*0-7*1/2;", 2);
        Due.due("rent", x.use(0, 9), 3);
        Due.due("leave", x.use(0, 8), 497);
        /* a product that is below 0 by wrapping: 9999 * 9999 * 43 = 4299140043, that is 4172747 */
        rent(x, "9999*9999*43/9999", 417);
        rent(x, "9999*9999*30/9999+999", 0);
        /* 9999 * 9999 * 30 - 2 ** 32 is -1295567266, by 9999 towards 0 is -129569 */
        Due.lines(x, 0, "leave 9999*9999*30/9999+9999*12+9582;", 1);
        Due.due("towards 0", x.use(0, 8), 1);
        rent(x, "999", 999);
        rent(x, "1000", 999);
        rent(x, "0-1", 0);
        Due.lines(x, 0, "leave 1001;fine 5000;", 2);
        Due.due("leave at most", x.use(0, 8), 1000);
        Due.due("fine at most", x.use(0, 10), 999);
        Due.due("rent untold", x.use(0, 9), 17);
        Due.lines(x, 0, "leave 0-1;fine 0-1;", 2);
        Due.due("leave at least", x.use(0, 8), 0);
        Due.due("fine at least", x.use(0, 10), 0);
        when(x, "1<2", true);
        when(x, "2<2", false);
        when(x, "3<2", false);
        when(x, "2=2", true);
        when(x, "1=2", false);
        when(x, "3>2", true);
        when(x, "2>2", false);
        when(x, "1>2", false);
        when(x, "not 1=1", false);
        when(x, "not 1=2", true);
        when(x, "not not 1=1", true);
        when(x, "1=1 or 1=1 and 1=2", true);
        when(x, "(1=1 or 1=1) and 1=2", false);
        when(x, "1=2 and 1=1 or 1=1", true);
        when(x, "1=2 and (1=1 or 1=1)", false);
        when(x, "1=2 or 1=2 or 1=1", true);
        when(x, "1=1 and 1=1 and 1=2", false);
        when(x, "not 1=2 and 1=2", false);
        when(x, "not (1=2 and 1=2)", true);
        when(x, "not 1=1 or 1=1", true);
        when(x, "not (1=1 or 1=1)", false);
        when(x, "1+1=4-2 and 2*3>5", true);
        when(x, "high=4 and kind=1 and (roof=3 or roof=2)", true);
        Due.lines(x, 0, "rent 1 when 1=2; fine 2; rent 3 when 1=1; rent 4; leave 5;", 5);
        Due.due("the first that is so", x.use(0, 9), 3);
        Due.due("fine", x.use(0, 10), 2);
        Due.due("leave", x.use(0, 8), 5);
        Due.lines(x, 0, "rent 1; rent 3 when 1=1;", 2);
        Due.due("the first", x.use(0, 9), 1);
        Due.lines(x, 0, "rent 1 when 1=2;", 1);
        Due.due("none is so: as without", x.use(0, 9), 17);
        Due.due("as without", x.use(0, 8), 800 - 240 - 200);
        Due.due("as without", x.use(0, 10), 65);
        Due.lines(x, 0, "", 0);
        x.swallow(2, 1);
        x.swallow(2, 1);
        x.swallow(2, 1);
        x.swallow(2, 1);
        Due.due("leave no lower", x.use(0, 8), 0);
    }

    private static void petitionFaults() {
        SwallowsAir x = new SwallowsAir();
        Due.faulty(x, 1, "on 0 person 0 kite at 0 0 0 for 1;", 2, 12);
        x.person(0, 0, 0);
        x.person(0, 0, 0);
        Due.lines(x, 1, "on 0 person 0 kite at 0 0 0 for 1;on 9999 person 1 ball at 9 7 7 for 30;", 2);
        for (String kind : "kite washing umbrella bell balloon ball".split(" ")) {
            Due.lines(x, 1, "on 1 person 1 " + kind + " at 1 1 1 for 1;", 1);
        }
        Due.faulty(x, 1, "on 10000 person 0 kite at 0 0 0 for 1;", 1, 3);
        Due.faulty(x, 1, "on 0 person 2 kite at 0 0 0 for 1;", 2, 12);
        Due.faulty(x, 1, "on 0 person 2 kite at 0 0 0 for 99;", 2, 12);
        Due.faulty(x, 1, "on 0 person 0 kind at 0 0 0 for 1;", 1, 14);
        Due.faulty(x, 1, "on 0 person 0 on at 0 0 0 for 1;", 1, 14);
        Due.faulty(x, 1, "on 0 person 0 for at 0 0 0 for 1;", 1, 14);
        Due.faulty(x, 1, "on 0 person 0 bell at 10 0 0 for 1;", 2, 22);
        Due.faulty(x, 1, "on 0 person 0 bell at 0 8 0 for 1;", 2, 24);
        Due.faulty(x, 1, "on 0 person 0 bell at 0 7 8 for 1;", 2, 26);
        Due.faulty(x, 1, "on 0 person 0 bell at 0 7 6 for 1;", 2, 26);
        Due.faulty(x, 1, "on 0 person 0 bell at 0 0 0 for 0;", 2, 32);
        Due.faulty(x, 1, "on 0 person 0 bell at 0 0 0 for 31;", 2, 32);
        Due.faulty(x, 1, "on 0 person 0 bell at 0 0 0 for 30", 1, 34);
        Due.faulty(x, 1, "on 0 person 0 bell at 0 0 for 30;", 1, 26);
        Due.faulty(x, 1, "on 0 person 0 bell 0 0 0 for 30;", 1, 19);
        Due.faulty(x, 1, "on 0 1;", 1, 5);
        Due.faulty(x, 1, "person 0", 1, 0);
        Due.faulty(x, 1, "on + ;", 1, 3);
        Due.faulty(x, 1, "rent 1;", 1, 0);
        Due.due("the last that stood", x.look(10), 1);
    }

    private static void leaseFaults() {
        SwallowsAir x = new SwallowsAir();
        Due.faulty(x, 2, "turn 0 to 0;", 2, 10);
        x.swallow(0, 1);
        Due.lines(x, 2, "turn 0 to 0; turn 9 to 0;", 2);
        Due.faulty(x, 2, "turn 10 to 0;", 2, 5);
        Due.faulty(x, 2, "turn 0 to 1;", 2, 10);
        Due.faulty(x, 2, "turn 0 0;", 1, 7);
        Due.faulty(x, 2, "turn to 0;", 1, 5);
        Due.faulty(x, 2, "turn 0 to 0", 1, 11);
        Due.faulty(x, 2, "to 0;", 1, 0);
        Due.faulty(x, 2, "turn 0 to to;", 1, 10);
        Due.due("lease(9)", x.lease(9), 0);
        Due.due("lines", x.look(11), 2);
    }

    private static void citeFaults() {
        SwallowsAir x = new SwallowsAir();
        Due.lines(x, 3, "case 0 follows 15; case 15 follows 0; case 0 follows 15;", 3);
        Due.faulty(x, 3, "case 16 follows 0;", 2, 5);
        Due.faulty(x, 3, "case 0 follows 16;", 2, 15);
        Due.faulty(x, 3, "case 3 follows 3;", 2, 15);
        Due.faulty(x, 3, "case 3 follows 03;", 2, 15);
        Due.faulty(x, 3, "case 3 follows ;", 1, 15);
        Due.faulty(x, 3, "case follows 3;", 1, 5);
        Due.faulty(x, 3, "case 3 3;", 1, 7);
        Due.faulty(x, 3, "case 3 follows 4", 1, 16);
        Due.faulty(x, 3, "follows 4;", 1, 0);
        Due.due("lines", x.look(12), 3);
    }

    private static String times(int n, String line) {
        return line.repeat(n);
    }

    private static void sixteenLines() {
        SwallowsAir x = new SwallowsAir();
        x.person(0, 0, 0);
        x.swallow(0, 1);
        String[] lines = {"rent 1;", "on 0person 0ball at 0 0 0for 1;", "turn 1 to 0;", "case 1 follows 2;"};
        String[] words = {"fine", "on", "turn", "case"};
        for (int k = 0; k < 4; k++) {
            int most = Math.min(16, 400 / lines[k].length());
            Due.lines(x, k, times(most, lines[k]), most);
            if (k != 1) {
                Due.faulty(x, k, times(17, lines[k]), 3, 16 * lines[k].length());
                Due.faulty(x, k, times(16, lines[k]) + " " + words[k], 3, 16 * lines[k].length() + 1);
                Due.faulty(x, k, times(16, lines[k]) + " ;", 1, 16 * lines[k].length() + 1);
                Due.faulty(x, k, times(16, lines[k]) + " when to follows", 1, 16 * lines[k].length() + 1);
                Due.lines(x, k, times(16, lines[k]) + " \n", 16);
            }
            Due.due("lines " + k, x.look(9 + k), most);
        }
    }

    private static void staysAsItWas() {
        SwallowsAir x = new SwallowsAir();
        x.person(0, 0, 0);
        x.swallow(0, 1);
        x.take(0, 0, 0, 0, 1);
        Due.lines(x, 0, "rent 11 when 1=1; rent 12;", 2);
        Due.faulty(x, 0, "rent 5; rent 6; fine 1 when 4", 1, 29);
        Due.due("the law stays", x.use(0, 9), 11);
        Due.lines(x, 2, "turn 3 to 0;", 1);
        Due.faulty(x, 2, "turn 4 to 0; turn 5", 1, 19);
        Due.due("the lease stays", x.lease(3), 0);
        Due.due("the lease stays", x.lease(4), -1);
        Due.lines(x, 3, "case 1 follows 2;", 1);
        Due.faulty(x, 3, "case 5 follows 6;;", 1, 17);
        Due.due("cites stay", x.cites(2, 0), 2);
        Due.due("cites stay", x.cites(6, 0), 0);
        Due.lines(x, 1, "on 0 person 0 bell at 5 0 0 for 9;", 1);
        Due.faulty(x, 1, "on 0 person 0 bell at 6 0 0 for 9; on", 1, 37);
        x.days(1);
        Due.due("petitions stay", x.use(0, 3), 5);
        Due.due("one use", x.look(2), 1);
    }
}
