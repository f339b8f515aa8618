/** "Terms", part 2, sentence by sentence: the texts, their tokens and faults, and what the law tells. */
public final class PartTwoEdgeTest {
    public static void main(String[] args) {
        emptyAtFirst();
        lawCanStand();
        lawRepeats();
        petitionCanStand();
        leaseCanStand();
        citesCanStand();
        petitionBounds();
        leaseBounds();
        leaseLast();
        citesBounds();
        sixteenLines();
        words();
        wordsOfThatText();
        numbers();
        signs();
        blanks();
        wraps();
        towardsZero();
        firstByPlace();
        leastAtOnePlace();
        theEnd();
        partByZero();
        thereIsNot();
        secondHeight();
        sameCase();
        seventeenthLine();
        ninthOpen();
        openAndClosed();
        firstLineThatIsSo();
        untold();
        held();
        facts();
        factsOfWhatIsAsked();
        conditions();
        comparisonsJoined();
        Due.close("PartTwoEdgeTest");
    }

    private static void good(int k, String text, int lines) {
        Due.lines(Airs.winter(), k, text, lines);
    }

    private static void bad(int k, String text, int fault, int place) {
        Due.faulty(Airs.winter(), k, text, fault, place);
    }

    private static void emptyAtFirst() {
        Due.sentence("Terms 2", "TEXTS (empty at first).");
        SwallowsAir x = new SwallowsAir();
        for (int what = 9; what <= 12; what++) {
            Due.due("look(" + what + ")", x.look(what), 0);
        }
    }

    private static final String FACTS = "kind high days roof tall fined nests summer used day";
    private static final String ALL = "leave rent fine when or and not " + FACTS
            + " on person kite washing umbrella bell balloon ball at for turn to case follows"
            + " ; + - * / ( ) < = > 1 12345 word ! . , [ { & | % \" #";

    /**
     * Behind a beginning each of all tokens: one that can stand there leads on (what is missing then is missing at
     * the end), any other is fault 1 at its place; and so is the end, if the line is not whole there.
     */
    private static void canStand(int k, String beginning, String those) {
        String among = " " + those + " ";
        for (String token : ALL.split(" ")) {
            String text = beginning + " " + token;
            if (!among.contains(" " + token + " ")) {
                bad(k, text, 1, beginning.length() + 1);
                bad(k, text + " ;", 1, beginning.length() + 1);
            } else if (!token.equals(";")) {
                bad(k, text, 1, text.length());
            } else {
                SwallowsAir x = Airs.winter();
                Due.due("'" + text + "'", Due.tell(x, k, text) > 0, true);
            }
        }
        if (!beginning.isEmpty() && !beginning.endsWith(";")) {
            bad(k, beginning, 1, beginning.length());
        }
    }

    private static void lawCanStand() {
        String units = FACTS + " 1";
        Due.sentence("Terms 2", "THE LAW = {(leave | rent | fine) E [when B] ;}.");
        canStand(0, "", "leave rent fine");
        canStand(0, "rent 1 ;", "leave rent fine");
        canStand(0, "rent 1 when 1 = 1 ;", "leave rent fine");
        for (String word : "leave rent fine".split(" ")) {
            canStand(0, word, units);
        }
        canStand(0, "rent 1", "+ - * / when ;");
        canStand(0, "rent day", "+ - * / when ;");
        canStand(0, "rent 1 when", units + " not (");
        Due.sentence("Terms 2", "B = A {or A}.  A = C {and C}.");
        canStand(0, "rent 1 when 1 = 1", "+ - * / or and ;");
        canStand(0, "rent 1 when 1 = 1 or", units + " not (");
        canStand(0, "rent 1 when 1 = 1 and", units + " not (");
        canStand(0, "rent 1 when 1 = 1 or 1 = 1 and 1 = 1", "+ - * / or and ;");
        Due.sentence("Terms 2", "C = E (< | = | >) E | not C | ( B ).");
        canStand(0, "rent 1 when 1", "+ - * / < = >");
        for (String sign : "< = >".split(" ")) {
            canStand(0, "rent 1 when 1 " + sign, units);
        }
        canStand(0, "rent 1 when not", units + " not (");
        canStand(0, "rent 1 when not 1", "+ - * / < = >");
        canStand(0, "rent 1 when not 1 = 1", "+ - * / or and ;");
        canStand(0, "rent 1 when (", units + " not (");
        canStand(0, "rent 1 when ( 1", "+ - * / < = >");
        canStand(0, "rent 1 when ( 1 = 1", "+ - * / or and )");
        canStand(0, "rent 1 when ( 1 = 1 )", "or and ;");
        canStand(0, "rent 1 when ( ( 1 = 1 )", "or and )");
        canStand(0, "rent 1 when not ( 1 = 1 )", "or and ;");
        Due.sentence("Terms 2", "E = T {(+ | -) T}.  T = U {* U | / NUMBER}.  U = NUMBER | kind | .. | day.");
        for (String sign : "+ - *".split(" ")) {
            canStand(0, "rent 1 " + sign, units);
        }
        canStand(0, "rent 1 /", "1");
        canStand(0, "rent day / 1", "+ - * / when ;");
        canStand(0, "rent 1 * day", "+ - * / when ;");
        canStand(0, "rent 1 when 1 = 1 /", "1");
        canStand(0, "rent 1 when 1 /", "1");
        for (String unit : units.split(" ")) {
            good(0, "rent " + unit + ";", 1);
        }
    }

    private static void lawRepeats() {
        Due.sentence("Terms 2", "{..}: as often as one likes, and not at all");
        good(0, "", 0);
        good(0, "rent 1;", 1);
        good(0, "rent 1;rent 1;", 2);
        good(0, "rent 1+1-1+1-1;", 1);
        good(0, "rent 1*1/1*1/1;", 1);
        good(0, "rent 1 when 1=1 or 1=1 or 1=1 or 1=1;", 1);
        good(0, "rent 1 when 1=1 and 1=1 and 1=1 and 1=1;", 1);
        /* A sum, and a condition, that fill the tape to its last byte. */
        good(0, "rent 1" + "+1".repeat(196) + " ;", 1);
        good(0, "rent 1 when 1=1" + " or 1=1".repeat(54) + "   \n  ;", 1);
        good(0, "fine 1 when 1=1" + " and 1=1".repeat(48) + ";", 1);
        Due.due("400 bytes", ("rent 1" + "+1".repeat(196) + " ;").length(), 400);
        Due.due("400 bytes", ("rent 1 when 1=1" + " or 1=1".repeat(54) + "   \n  ;").length(), 400);
        Due.due("400 bytes", ("fine 1 when 1=1" + " and 1=1".repeat(48) + ";").length(), 400);
    }

    private static void petitionCanStand() {
        Due.sentence("Terms 2", "PETITIONS = {on DAY person PERSON (kite | .. | ball) at ROOF HEIGHT HEIGHT for N ;}");
        String kinds = "kite washing umbrella bell balloon ball";
        canStand(1, "", "on");
        canStand(1, "on", "1");
        canStand(1, "on 1", "person");
        canStand(1, "on 1 person", "1");
        canStand(1, "on 1 person 1", kinds);
        for (String kind : kinds.split(" ")) {
            canStand(1, "on 1 person 1 " + kind, "at");
        }
        canStand(1, "on 1 person 1 kite at", "1");
        canStand(1, "on 1 person 1 kite at 1", "1");
        canStand(1, "on 1 person 1 kite at 1 1", "1");
        canStand(1, "on 1 person 1 kite at 1 1 1", "for");
        canStand(1, "on 1 person 1 kite at 1 1 1 for", "1");
        canStand(1, "on 1 person 1 kite at 1 1 1 for 1", ";");
        canStand(1, "on 1 person 1 kite at 1 1 1 for 1 ;", "on");
        good(1, "", 0);
    }

    private static void leaseCanStand() {
        Due.sentence("Terms 2", "LEASE = {turn ROOF to SWALLOW ;}");
        canStand(2, "", "turn");
        canStand(2, "turn", "1");
        canStand(2, "turn 1", "to");
        canStand(2, "turn 1 to", "1");
        canStand(2, "turn 1 to 1", ";");
        canStand(2, "turn 1 to 1 ;", "turn");
        good(2, "", 0);
    }

    private static void citesCanStand() {
        Due.sentence("Terms 2", "CITES = {case N follows N ;}");
        canStand(3, "", "case");
        canStand(3, "case", "1");
        canStand(3, "case 1", "follows");
        canStand(3, "case 2 follows", "1");
        canStand(3, "case 2 follows 1", ";");
        canStand(3, "case 2 follows 1 ;", "case");
        good(3, "", 0);
    }

    private static String petition(String day, String person, String roof, String from, String to, String n) {
        return "on " + day + " person " + person + " bell at " + roof + " " + from + " " + to + " for " + n + ";";
    }

    private static void petitionBounds() {
        Due.sentence("Terms 2", "(DAY 0 .. 9999; from HEIGHT, to HEIGHT; N 1 .. 30.) one beyond its bounds");
        good(1, petition("0", "0", "0", "0", "0", "1"), 1);
        good(1, petition("9999", "1", "9", "7", "7", "30"), 1);
        good(1, petition("0", "0", "0", "0", "7", "1"), 1);
        bad(1, petition("10000", "0", "0", "0", "0", "1"), 1, 3);
        bad(1, petition("0", "0", "10", "0", "0", "1"), 2, 22);
        bad(1, petition("0", "0", "9999", "0", "0", "1"), 2, 22);
        bad(1, petition("0", "0", "0", "8", "8", "1"), 2, 24);
        bad(1, petition("0", "0", "0", "0", "8", "1"), 2, 26);
        bad(1, petition("0", "0", "0", "7", "8", "1"), 2, 26);
        bad(1, petition("0", "0", "0", "0", "0", "0"), 2, 32);
        bad(1, petition("0", "0", "0", "0", "0", "31"), 2, 32);
        bad(1, petition("0", "0", "0", "0", "0", "9999"), 2, 32);
        SwallowsAir x = Airs.winter();
        x.set(5, 0, 9998);
        Due.lines(x, 1, petition("9998", "1", "9", "6", "7", "30"), 1);
        x.days(1);
        int[] want = {0, 1, 3, 9, 6, 7, 29, 1};
        for (int what = 0; what < 8; what++) {
            Due.due("use(0, " + what + ")", x.use(0, what), want[what]);
        }
    }

    private static void leaseBounds() {
        Due.sentence("Terms 2", "turn ROOF to SWALLOW: one beyond its bounds");
        good(2, "turn 0 to 0;", 1);
        good(2, "turn 9 to 1;", 1);
        bad(2, "turn 10 to 0;", 2, 5);
        bad(2, "turn 9999 to 0;", 2, 5);
        bad(2, "turn 0 to 9999;", 2, 10);
    }

    private static void leaseLast() {
        Due.sentence("Terms 2", "(of several for one ROOF the last.)");
        SwallowsAir x = Airs.winter();
        Due.lines(x, 2, "turn 4 to 0; turn 5 to 0; turn 4 to 1;", 3);
        Due.due("lease(4)", x.lease(4), 1);
        Due.due("lease(5)", x.lease(5), 0);
        Due.lines(x, 2, "turn 4 to 1; turn 5 to 1; turn 4 to 0;", 3);
        Due.due("lease(4)", x.lease(4), 0);
        Due.due("lease(5)", x.lease(5), 1);
        Due.due("each is a line", x.look(11), 3);
        Due.due("who has it not any more does not see by it", x.bird(1, 14), 0);
    }

    private static void citesBounds() {
        Due.sentence("Terms 2", "(N 0 .. 15; unlike.)");
        good(3, "case 0 follows 15;", 1);
        good(3, "case 15 follows 0;", 1);
        bad(3, "case 16 follows 0;", 2, 5);
        bad(3, "case 0 follows 16;", 2, 15);
        bad(3, "case 9999 follows 0;", 2, 5);
        bad(3, "case 16 follows 16;", 2, 5);
        good(3, "case 0 follows 1;", 1);
        good(3, "case 1 follows 0;", 1);
        bad(3, "case 0 follows 0;", 2, 15);
        bad(3, "case 15 follows 15;", 2, 16);
    }

    private static final String[] LINES = {"rent 1;", "on0person0kite at0 0 0for1;", "turn 1 to 0;", "case 1 follows 2;"};

    private static void sixteenLines() {
        Due.sentence("Terms 2", "16 lines of each at most.");
        for (int k : new int[] {0, 2, 3}) {
            SwallowsAir x = Airs.winter();
            Due.lines(x, k, LINES[k].repeat(15), 15);
            Due.lines(x, k, LINES[k].repeat(16), 16);
            Due.due("lines", x.look(9 + k), 16);
            Due.faulty(x, k, LINES[k].repeat(17), 3, 16 * LINES[k].length());
            Due.due("lines yet", x.look(9 + k), 16);
        }
        /* The shortest petition has 27 bytes: the tape takes 14 of them. */
        good(1, LINES[1].repeat(14), 14);
    }

    private static void words() {
        Due.sentence("Terms 2", "letters as many as stand together are KEYWORDS (those told here for that text) or none");
        good(0, "rent day;", 1);
        bad(0, "rentday;", 1, 0);
        bad(0, "rent dayday;", 1, 5);
        bad(0, "rent da;", 1, 5);
        bad(0, "rent days;rent dayz;", 1, 15);
        bad(0, "rent Day;", 1, 5);
        bad(0, "rent daY;", 1, 5);
        bad(0, "RENT 1;", 1, 0);
        bad(0, "rent d ay;", 1, 5);
        bad(0, "rent a;", 1, 5);
        bad(0, "rent z;", 1, 5);
        good(0, "rent 1when 1=1and 1=1or 1=1;", 1);
        bad(0, "rent 1 when1=1 andnot 1=1;", 1, 15);
        for (String beside : "a z A Z".split(" ")) {
            bad(0, "rent day" + beside + ";", 1, 5);
            bad(0, "rent " + beside + "day;", 1, 5);
        }
        /* The signs just beside the letters are no letters: the word is whole, and they can't stand behind it. */
        for (String beside : "` { @ [".split(" ")) {
            bad(0, "rent day" + beside + ";", 1, 8);
        }
    }

    private static void wordsOfThatText() {
        Due.sentence("Terms 2", "KEYWORDS (those told here for that text)");
        bad(1, "rent 1;", 1, 0);
        bad(2, "on 1;", 1, 0);
        bad(3, "turn 1 to 1;", 1, 0);
        bad(0, "case 1 follows 2;", 1, 0);
        bad(1, "on 1 person 1 kind at 1 1 1 for 1;", 1, 14);
        bad(2, "turn 1 follows 1;", 1, 7);
        bad(3, "case 1 to 2;", 1, 7);
    }

    private static void numbers() {
        Due.sentence("Terms 2", "digits as many as stand together NUMBERS of 1 to 4 digits or none");
        for (String number : "0 1 9 10 99 100 999 1000 9999 0000 0001 0099".split(" ")) {
            SwallowsAir x = Airs.winter();
            x.take(0, 0, 0, 0, 1);
            Due.lines(x, 0, "leave " + number + " / 10;", 1);
            Due.due("leave", x.use(0, 8), Integer.parseInt(number) / 10);
        }
        bad(0, "rent 10000;", 1, 5);
        bad(0, "rent 00000;", 1, 5);
        bad(0, "rent 00001;", 1, 5);
        bad(0, "rent 99999999999999999999;", 1, 5);
        bad(0, "rent 1 2;", 1, 7);
        bad(0, "rent 12 34;", 1, 8);
        bad(0, "rent 1/ 00001;", 1, 8);
        bad(1, "on 00001 person 0 kite at 0 0 0 for 1;", 1, 3);
        good(1, "on 0001 person 0001 kite at 0009 0007 0007 for 0030;", 1);
        good(3, "case 0015 follows 0000;", 1);
        /* Too long ones whose first digits are the number of a sign, of a word or of a digit. */
        for (char sign : ";+-*/()<=>".toCharArray()) {
            bad(0, "rent 1 " + String.format("%04d0", (int) sign), 1, 7);
            bad(0, "rent 1 when 1 " + String.format("%04d0", (int) sign) + "1;", 1, 14);
        }
        for (int n = 0; n < 17; n++) {
            bad(0, String.format("%04d0", n) + " 1;", 1, 0);
            bad(0, "rent " + String.format("%04d0", n) + ";", 1, 5);
        }
        /* The signs just beside the digits are no digits. */
        bad(0, "rent 1/;", 1, 7);
        bad(0, "rent 1:;", 1, 6);
    }

    private static void signs() {
        Due.sentence("Terms 2", "; + - * / ( ) < = > .");
        good(0, "rent 1+2-3*4/5 when(1<2)and 1=1 or 2>1;", 1);
        for (int b = 0; b < 256; b++) {
            char c = (char) b;
            boolean blank = c == ' ' || c == '\n';
            boolean letter = c >= 'a' && c <= 'z' || c >= 'A' && c <= 'Z';
            if (blank) {
                good(0, "rent 1" + c + ";", 1);
            } else if (c == ';') {
                bad(0, "rent 1;;", 1, 7);
            } else if (c >= '0' && c <= '9') {
                good(0, "rent 1" + c + ";", 1);
            } else if ("+-*/".indexOf(c) >= 0) {
                bad(0, "rent 1" + c + ";", 1, 7);
                good(0, "rent 1" + c + "1;", 1);
            } else {
                bad(0, "rent 1" + c + (letter ? " 1;" : "1;"), 1, 6);
            }
        }
    }

    private static void blanks() {
        Due.sentence("Terms 2", "Blanks (32, 10) between.");
        good(0, "   rent\n\n1 \n ;\n ", 1);
        good(0, " ", 0);
        good(0, "\n", 0);
        good(0, " ".repeat(400), 0);
        good(0, " ".repeat(393) + "rent 1;", 1);
        good(0, "rent1;", 1);
        bad(0, "rent\t1;", 1, 4);
        bad(0, "rent\r1;", 1, 4);
        bad(0, "rent\u000b1;", 1, 4);
        bad(0, "rent\u001f1;", 1, 4);
        bad(0, "rent!1;", 1, 4);
        bad(0, "rent\u00001;", 1, 4);
        bad(0, "rent\u00a01;", 1, 4);
        bad(0, "re nt 1;", 1, 0);
        bad(0, "rent 1\n0;", 1, 7);
    }

    private static int leaveBy(String law) {
        SwallowsAir x = Airs.winter();
        x.take(0, 0, 0, 0, 1);
        Due.lines(x, 0, "leave " + law + ";", 1);
        return x.use(0, 8);
    }

    private static void wraps() {
        Due.sentence("Terms 2", "Ints, which wrap");
        Due.due("2 ** 31 - 1", leaveBy("4096*4096*128-1"), 1000);
        Due.due("2 ** 31 is below 0", leaveBy("4096*4096*128"), 0);
        Due.due("2 ** 31 - 1 + 1", leaveBy("4096*4096*128-1+1"), 0);
        Due.due("-2 ** 31 - 1", leaveBy("0-4096*4096*128-1"), 1000);
        Due.due("2 ** 32 is 0", leaveBy("4096*4096*256+7"), 7);
        Due.due("2 ** 32 - 1 is -1", leaveBy("4096*4096*256-1+8"), 7);
        Due.due("a product before it is parted", leaveBy("9999*9999*43/9999"), 417);
        Due.due("less than what wrapped", whenIs("4096*4096*128<0"), true);
        Due.due("more than what did not", whenIs("4096*4096*128-1>0"), true);
        Due.due("the least int and 1: no difference is taken", whenIs("4096*4096*128<1"), true);
        Due.due("1 and the least int", whenIs("1>4096*4096*128"), true);
    }

    private static void towardsZero() {
        Due.sentence("Terms 2", "/ goes towards 0");
        Due.due("7 by 2", leaveBy("7/2"), 3);
        Due.due("8 by 2", leaveBy("8/2"), 4);
        /* Products that wrap to -1, -7 and -8: a part of E that is below 0 can't be had otherwise. */
        Due.due("-1", leaveBy("947*7319*1859+9"), 8);
        Due.due("-7", leaveBy("3117*8251*167+9"), 2);
        Due.due("-8", leaveBy("8356*2206*233+9"), 1);
        Due.due("-1 by 2", leaveBy("947*7319*1859/2+9"), 9);
        Due.due("-7 by 2", leaveBy("3117*8251*167/2+9"), 6);
        Due.due("-8 by 2", leaveBy("8356*2206*233/2+9"), 5);
        Due.due("-7 by 9999", leaveBy("3117*8251*167/9999+9"), 9);
        Due.due("0 less 7 by 2", leaveBy("0-7/2+9"), 6);
        Due.due("the least int by 1", leaveBy("4096*4096*128/1-1"), 1000);
    }

    private static boolean whenIs(String condition) {
        SwallowsAir x = Airs.winter();
        x.take(0, 0, 0, 0, 1);
        Due.lines(x, 0, "fine 7 when " + condition + "; fine 8;", 2);
        int fine = x.use(0, 10);
        Due.due("7 or 8", fine == 7 || fine == 8, true);
        return fine == 7;
    }

    private static void firstByPlace() {
        Due.sentence("Terms 2", "FAULTS, the first by its place");
        bad(0, "rent 1/0; rent", 2, 7);
        bad(0, "rent ! 1/0;", 1, 5);
        bad(0, "rent 1/0 when (((((((((", 2, 7);
        bad(0, "rent 1 when ((((((((( 1/0", 3, 20);
        bad(1, "on 0 person 9 kite at 99 9 9 for 99;", 2, 12);
        bad(1, "on 0 person 0 kite at 99 9 9 for", 2, 22);
        bad(1, "on 0 person 0 kite at 0 9 9 for 99", 2, 24);
        bad(1, "on 0 person 0 kite at 0 0 0 for 99", 2, 32);
        bad(1, "on 0 person 0 kite at 0 0 0 far 99", 1, 28);
        bad(2, "turn 10 to 9", 2, 5);
        bad(2, "turn 0 to 9", 2, 10);
        bad(3, "case 16 follows 16", 2, 5);
        bad(3, "case 1 follows 1", 2, 15);
        bad(3, LINES[3].repeat(15) + "case 1 follows 1;" + LINES[3], 2, 15 * 17 + 15);
    }

    private static void leastAtOnePlace() {
        Due.sentence("Terms 2", "at one place the least");
        for (int k : new int[] {0, 2, 3}) {
            String sixteen = LINES[k].repeat(16);
            bad(k, sixteen + ";", 1, sixteen.length());
            bad(k, sixteen + "1", 1, sixteen.length());
            bad(k, sixteen + "word", 1, sixteen.length());
            bad(k, sixteen + new String[] {"when", "", "to", "follows"}[k], 1, sixteen.length());
        }
        String eight = "rent 1 when ((((((((";
        bad(0, eight + ")", 1, eight.length());
        bad(0, eight + "word", 1, eight.length());
        bad(0, eight + "1=1 (", 1, eight.length() + 4);
        bad(0, eight + "1=1 not", 1, eight.length() + 4);
        bad(0, "rent (", 1, 5);
        bad(0, "rent not", 1, 5);
        bad(1, petition("0", "0", "00010", "0", "0", "1"), 1, 22);
        bad(0, "rent 1/00000;", 1, 7);
    }

    private static void theEnd() {
        Due.sentence("Terms 2", "1 what can't stand there (the end: the text's length).");
        bad(0, "rent", 1, 4);
        bad(0, "rent ", 1, 5);
        bad(0, "rent \n \n", 1, 8);
        bad(0, "rent 1", 1, 6);
        bad(0, "rent 1 ", 1, 7);
        bad(0, "rent 1" + " ".repeat(394), 1, 400);
        bad(0, " ".repeat(396) + "rent", 1, 400);
        bad(0, " ".repeat(399) + "1", 1, 399);
        bad(1, "on", 1, 2);
        bad(2, "turn 1 to 1 ", 1, 12);
        bad(3, "case 1 ", 1, 7);
    }

    private static void partByZero() {
        Due.sentence("Terms 2", "2 (at the NUMBER) a part by 0");
        good(0, "rent 0/1;", 1);
        good(0, "rent 1/1*0;", 1);
        good(0, "rent 0*0;", 1);
        for (String zero : "0 00 000 0000".split(" ")) {
            bad(0, "rent 1/" + zero + ";", 2, 7);
            bad(0, "rent 1 / " + zero + ";", 2, 9);
            bad(0, "rent 1 when 1=1/ " + zero + ";", 2, 17);
        }
        bad(0, "rent 1*1/0;", 2, 9);
        bad(0, "rent 1/1/0;", 2, 9);
        bad(0, "rent 1+1/0;", 2, 9);
        good(0, "rent 1/0001;", 1);
    }

    private static void thereIsNot() {
        Due.sentence("Terms 2", "2 .. a PERSON, a SWALLOW that there is not");
        SwallowsAir x = new SwallowsAir();
        Due.faulty(x, 1, petition("0", "0", "0", "0", "0", "1"), 2, 12);
        Due.faulty(x, 2, "turn 0 to 0;", 2, 10);
        x.person(0, 0, 0);
        Due.lines(x, 1, petition("0", "0", "0", "0", "0", "1"), 1);
        Due.faulty(x, 1, petition("0", "1", "0", "0", "0", "1"), 2, 12);
        Due.faulty(x, 2, "turn 0 to 0;", 2, 10);
        x.swallow(0, 1);
        x.swallow(0, 1);
        Due.lines(x, 2, "turn 0 to 1;", 1);
        Due.faulty(x, 2, "turn 0 to 2;", 2, 10);
        Due.faulty(x, 1, petition("0", "1", "0", "0", "0", "1"), 2, 12);
        x = new SwallowsAir();
        for (int i = 0; i < 10; i++) {
            x.person(0, 0, 0);
            x.swallow(0, 1);
        }
        Due.lines(x, 1, petition("0", "9", "0", "0", "0", "1"), 1);
        Due.faulty(x, 1, petition("0", "10", "0", "0", "0", "1"), 2, 12);
        Due.lines(x, 2, "turn 0 to 9;", 1);
        Due.faulty(x, 2, "turn 0 to 10;", 2, 10);
    }

    private static void secondHeight() {
        Due.sentence("Terms 2", "2 .. the second HEIGHT below the first");
        for (int from = 0; from < 8; from++) {
            if (from > 0) {
                bad(1, petition("0", "0", "0", "" + from, "" + (from - 1), "1"), 2, 26);
                bad(1, petition("0", "0", "0", "" + from, "0", "1"), 2, 26);
            }
            good(1, petition("0", "0", "0", "" + from, "" + from, "1"), 1);
            if (from < 7) {
                good(1, petition("0", "0", "0", "" + from, "" + (from + 1), "1"), 1);
            }
        }
    }

    private static void sameCase() {
        Due.sentence("Terms 2", "2 .. the same case again (of CITES)");
        for (int n = 0; n < 16; n++) {
            int place = ("case " + n + " follows ").length();
            bad(3, "case " + n + " follows " + n + ";", 2, place);
            good(3, "case " + n + " follows " + (n + 1) % 16 + ";", 1);
        }
        bad(3, "case 1 follows 0001;", 2, 15);
        good(3, "case 1 follows 2; case 2 follows 1;", 2);
        good(3, "case 1 follows 2; case 1 follows 2;", 2);
    }

    private static void seventeenthLine() {
        Due.sentence("Terms 2", "3 (at its KEYWORD) the 17th line of a text");
        String[] words = {"leave", "on", "turn", "case"};
        for (int k : new int[] {0, 2, 3}) {
            String sixteen = LINES[k].repeat(16);
            good(k, sixteen, 16);
            good(k, sixteen + " \n", 16);
            bad(k, sixteen + words[k], 3, sixteen.length());
            bad(k, sixteen + "\n " + words[k] + " !", 3, sixteen.length() + 2);
            bad(k, sixteen + LINES[k] + LINES[k], 3, sixteen.length());
        }
        for (String word : "leave rent fine".split(" ")) {
            bad(0, LINES[0].repeat(16) + word, 3, 16 * LINES[0].length());
        }
    }

    private static void ninthOpen() {
        Due.sentence("Terms 2", "3 (at it) the 9th ( or not that is open.");
        for (int nots = 0; nots < 512; nots++) {
            StringBuilder text = new StringBuilder("rent 1 when ");
            StringBuilder behind = new StringBuilder();
            for (int i = 0; i < 8; i++) {
                boolean not = (nots >> i & 1) == 1;
                text.append(not ? "not " : "(");
                behind.append(not ? "" : ")");
            }
            if (nots < 256) {
                good(0, text + "1=1" + behind + ";", 1);
            }
            boolean ninthIsNot = (nots >> 8 & 1) == 1;
            bad(0, text + (ninthIsNot ? "not 1=1" : "(1=1)") + behind + ";", 3, text.length());
        }
        bad(0, "rent 1 when 1=1 or ((((((((1=1 and not", 3, 35);
        bad(0, "rent 1 when " + "(".repeat(388), 3, 20);
        bad(0, "rent 1 when " + "not ".repeat(97), 3, 44);
    }

    private static void openAndClosed() {
        Due.sentence("Terms 2", "the 9th .. that is open (one that is closed is not)");
        good(0, "rent 1 when " + "(1=1) and ".repeat(20) + "1=1;", 1);
        good(0, "rent 1 when " + "not 1=1 or ".repeat(20) + "1=1;", 1);
        good(0, "rent 1 when (((((((" + "(1=1) or ".repeat(9) + "not 1=1)))))));", 1);
        good(0, "rent 1 when ((((((((1=1)))))))) and ((((((((1=1))))))));", 1);
        good(0, "rent 1 when not (((((((1=1))))))) and ((((((((1=1))))))));", 1);
        good(0, "rent 1 when ((((((((1=1))))))));rent 1 when ((((((((1=1))))))));", 2);
        good(0, "rent 1 when (((((((not 1=1 and not 1=1 or (1=1)))))))) ;", 1);
        bad(0, "rent 1 when (((((((not 1=1 and not (1=1))))))));", 3, 35);
        bad(0, "rent 1 when (((((((not (1=1))))))));", 3, 23);
    }

    private static SwallowsAir withUse() {
        SwallowsAir x = Airs.winter();
        x.take(0, 0, 0, 25, 3);
        return x;
    }

    private static void tells(String law, int leave, int rent, int fine) {
        SwallowsAir x = withUse();
        Due.due("'" + law + "'", Due.tell(x, 0, law) >= 0, true);
        Due.due("leave by " + law, x.use(0, 8), leave);
        Due.due("rent by " + law, x.use(0, 9), rent);
        Due.due("fine by " + law, x.use(0, 10), fine);
    }

    private static void firstLineThatIsSo() {
        Due.sentence("Terms 2", "E of the first line with that word whose B is so, or that has none");
        tells("rent 1; rent 2;", 500, 1, 15);
        tells("rent 1 when 1=2; rent 2;", 500, 2, 15);
        tells("rent 1 when 1=1; rent 2;", 500, 1, 15);
        tells("rent 1 when 1=2; rent 2 when 1=1; rent 3 when 1=1;", 500, 2, 15);
        tells("fine 1; leave 2; rent 3; fine 4; leave 5; rent 6;", 2, 3, 1);
        tells("fine 1 when 1=2; leave 2; rent 3; fine 4;", 2, 3, 4);
        tells("leave 9;" + "rent 7 when 1=2;".repeat(14) + "rent 8;", 9, 8, 15);
    }

    private static void untold() {
        Due.sentence("Terms 2", "(none: leave: 800 less 60 times high and 100 times nests, rent: days and high, fine: 5 times days)");
        tells("", 500, 8, 15);
        tells("leave 1 when 1=2; rent 1 when 1=2; fine 1 when 1=2;", 500, 8, 15);
        tells("leave 1;", 1, 8, 15);
        tells("rent 1;", 500, 1, 15);
        tells("fine 1;", 500, 8, 1);
        SwallowsAir x = Airs.winter();
        x.take(0, 0, 2, 0, 1);
        x.take(0, 0, 2, 77, 30);
        int[][] want = {{700, 1, 5}, {280, 37, 150}};
        for (int i = 0; i < 2; i++) {
            for (int j = 0; j < 3; j++) {
                Due.due("use(" + i + ", " + (8 + j) + ")", x.use(i, 8 + j), want[i][j]);
            }
        }
        x.swallow(2, 1);
        x.swallow(2, 1);
        Due.due("of three nests, high 7", x.use(1, 8), 80);
        x.swallow(2, 1);
        Due.due("held to 0", x.use(1, 8), 0);
        Due.due("of four nests, high 0", x.use(0, 8), 400);
    }

    private static void held() {
        Due.sentence("Terms 2", "leave held to 0 .. 1000, rent, fine to 0 .. 999");
        tells("leave 999; rent 998; fine 998;", 999, 998, 998);
        tells("leave 1000; rent 999; fine 999;", 1000, 999, 999);
        tells("leave 1001; rent 1000; fine 1000;", 1000, 999, 999);
        tells("leave 9999*9999; rent 9999*9999; fine 9999*9999;", 1000, 999, 999);
        tells("leave 1; rent 1; fine 1;", 1, 1, 1);
        tells("leave 0; rent 0; fine 0;", 0, 0, 0);
        tells("leave 0-1; rent 0-1; fine 0-1;", 0, 0, 0);
        tells("leave 0-9999*9999; rent 0-9999*9999; fine 0-9999*9999;", 0, 0, 0);
        tells("leave 5*9999-9999*4-9998; rent 9999-9998; fine 9999-9000;", 1, 1, 999);
    }

    private static void facts() {
        Due.sentence("Terms 2", "kind; high: to HEIGHT; days: DAYS; roof: its ROOF; tall, fined: its PERSON's; nests; summer; used; day.");
        SwallowsAir x = new SwallowsAir();
        x.person(2, 9, 900);
        x.person(7, 1, 900);
        x.swallow(9, 1);
        x.swallow(9, 1);
        x.swallow(0, 3);
        x.set(5, 0, 100);
        x.take(1, 0, 0, 0, 30);
        x.days(1);
        x.set(5, 0, 269);
        x.take(0, 0, 1, 7, 1);
        x.take(1, 5, 9, 36, 30);
        int at = 1;
        int[] want = {5, 6, 30, 9, 7, 150, 2, 1, 12, 269};
        String[] names = FACTS.split(" ");
        for (int i = 0; i < 10; i++) {
            Due.due("the law", Due.tell(x, 0, "rent " + names[i] + ";"), 1);
            Due.due(names[i], x.use(at, 9), want[i]);
        }
        x.set(5, 0, 270);
        Due.tell(x, 0, "rent summer; fine day;");
        Due.due("summer in WINTER", x.use(at, 9), 0);
        Due.due("day then", x.use(at, 10), 270);
        x.set(5, 0, 90);
        Due.due("summer on 90", x.use(at, 9), 1);
        x.set(5, 0, 89);
        Due.due("summer on 89", x.use(at, 9), 0);
        x.set(3, 1, 7);
        Due.tell(x, 0, "rent tall; fine roof; leave nests;");
        Due.due("tall whatever STOOPS", x.use(at, 9), 7);
        Due.due("the use's ROOF, not his", x.use(at, 10), 9);
        x.nest(0, 8);
        Due.due("nests then", x.use(at, 8), 1);
        Due.tell(x, 2, "turn 9 to 2;");
        Due.due("a LEASE is no nest", x.use(at, 8), 1);
    }

    /** Two people, so that a row read at a wrong place tells another number. */
    private static void factsOfWhatIsAsked() {
        Due.sentence("Terms 2", "What THE LAW tells of a use for a word (of one that is asked for, and has not begun)");
        int[] want = {4, 6, 29, 8, 5, 35, 1, 1, 2, 101};
        String[] names = FACTS.split(" ");
        for (int i = 0; i < 10; i++) {
            for (int given = 0; given < 2; given++) {
                SwallowsAir x = new SwallowsAir();
                x.person(2, 0, 900);
                x.person(5, 1, 900);
                x.swallow(8, 1);
                x.set(5, 0, 100);
                x.take(1, 0, 8, 0, 7);
                x.take(1, 0, 3, 34, 30);
                x.days(1);
                Airs.law(x, given == 1 ? "leave 1000; rent " + names[i] + ";" : "leave " + names[i] + ";");
                x.state(Airs.stateFor(999));
                Due.due("ask", x.ask(1, 4, 8, 36, 29), given == 1 ? 2 : -1);
                int line = x.look(7) - 1;
                Due.due((given == 1 ? "rent by " : "leave by ") + names[i], x.book(line, 3), want[i]);
                Due.due("would by " + names[i], x.would(1, 4, 5, 36, 29) >= 0, true);
            }
        }
        SwallowsAir x = Airs.summer();
        x.state(Airs.stateFor(0));
        x.ask(0, 5, 2, 36, 4);
        Due.due("rent untold: days and high", x.book(0, 3), 10);
        x.state(Airs.stateFor(999));
        x.ask(0, 5, 2, 77, 4);
        Due.due("leave untold", x.book(1, 3), 800 - 420 - 100);
    }

    private static void comparisonsJoined() {
        Due.sentence("Terms 2", "A = C {and C}. C = E (< | = | >) E (each comparison joined with each)");
        String[] so = {"1<2", "2=2", "2>1"};
        String[] not = {"2<1", "1=2", "1>2"};
        for (int i = 0; i < 3; i++) {
            Due.due("not " + so[i], whenIs("not " + so[i]), false);
            Due.due("not " + not[i], whenIs("not " + not[i]), true);
            for (int j = 0; j < 3; j++) {
                Due.due(so[i] + " and " + so[j], whenIs(so[i] + " and " + so[j]), true);
                Due.due(so[i] + " and " + not[j], whenIs(so[i] + " and " + not[j]), false);
                Due.due(not[i] + " and " + so[j], whenIs(not[i] + " and " + so[j]), false);
                Due.due(so[i] + " or " + not[j], whenIs(so[i] + " or " + not[j]), true);
                Due.due(not[i] + " or " + so[j], whenIs(not[i] + " or " + so[j]), true);
                Due.due(not[i] + " or " + not[j], whenIs(not[i] + " or " + not[j]), false);
                Due.due("not(" + so[i] + " or ..)", whenIs("not (" + so[i] + " or " + so[j] + ")"), false);
                Due.due("not " + not[i] + " and ..", whenIs("not " + not[i] + " and " + so[j]), true);
            }
        }
    }

    private static void conditions() {
        Due.sentence("Terms 2", "B = A {or A}.  A = C {and C}: and before or; C = E (< | = | >) E | not C | ( B )");
        int[] pairs = {1, 2, 2, 2, 3, 2};
        boolean[] less = {true, false, false};
        boolean[] equal = {false, true, false};
        for (int i = 0; i < 3; i++) {
            String a = "" + pairs[2 * i];
            String b = "" + pairs[2 * i + 1];
            Due.due(a + "<" + b, whenIs(a + "<" + b), less[i]);
            Due.due(a + "=" + b, whenIs(a + "=" + b), equal[i]);
            Due.due(a + ">" + b, whenIs(a + ">" + b), !less[i] && !equal[i]);
        }
        String[] truth = {"1=2", "1=1"};
        for (int bits = 0; bits < 8; bits++) {
            boolean a = (bits & 1) == 1;
            boolean b = (bits & 2) == 2;
            boolean c = (bits & 4) == 4;
            String p = truth[bits & 1];
            String q = truth[bits >> 1 & 1];
            String r = truth[bits >> 2];
            Due.due(bits + " or and", whenIs(p + " or " + q + " and " + r), a || b && c);
            Due.due(bits + " and or", whenIs(p + " and " + q + " or " + r), a && b || c);
            Due.due(bits + " (or) and", whenIs("(" + p + " or " + q + ") and " + r), (a || b) && c);
            Due.due(bits + " and (or)", whenIs(p + " and (" + q + " or " + r + ")"), a && (b || c));
            Due.due(bits + " not and", whenIs("not " + p + " and " + q + " or not " + r), !a && b || !c);
            Due.due(bits + " not ()", whenIs("not (" + p + " and " + q + " or " + r + ")"), !(a && b || c));
            Due.due(bits + " not not", whenIs("not not " + p + " and not not not " + q + " and " + r), a && !b && c);
            Due.due(bits + " or or", whenIs(p + " or " + q + " or " + r), a || b || c);
            Due.due(bits + " and and", whenIs(p + " and " + q + " and " + r), a && b && c);
        }
        Due.due("sums on both sides", whenIs("1+2*3=15/2 and 9-4-3<20/7+1"), true);
        Due.due("eight deep", whenIs("1=2 or 1=1 and (1=2 or 1=1 and (1=2 or 1=1 and (1=2 or 1=1 and (1=2 or 1=1 and"
                + " (1=2 or 1=1 and (1=2 or 1=1 and (1=2 or 1=1 and 2+2*2*2=5+5*1)))))))"), true);
    }
}
