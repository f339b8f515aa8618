import java.util.ArrayDeque;
import java.util.ArrayList;
import java.util.Arrays;
import java.util.List;
import java.util.Set;
import java.util.function.Predicate;
import java.util.function.ToIntFunction;

/**
 * The days, the texts, undo and the image a second time, as plainly as the Java library lets them be written:
 * ModelTest holds the program against it. Texts are read by a grammar that throws, states are copied whole.
 */
final class Model {
    static final class Fault extends RuntimeException {
        private static final long serialVersionUID = 1L;
        final int kind;
        final int place;

        Fault(int kind, int place) {
            super("fault");
            this.kind = kind;
            this.place = place;
        }
    }

    record Token(String text, int place) {
        boolean isNumber() {
            return text.matches("[0-9]{1,4}");
        }
    }

    record Facts(int kind, int high, int days, int roof, int tall, int fined, int nests, int summer, int used, int day) {
    }

    record LawLine(String word, ToIntFunction<Facts> told, Predicate<Facts> when) {
    }

    record Petition(int day, int person, int kind, int roof, int from, int to, int days) {
    }

    record Line(int day, int what, int which, int much) {
    }

    record Use(int number, int person, int kind, int roof, int from, int to, int days, int leave) {
    }

    static final class Someone {
        int tall;
        int purse;
        int roof;
        int stoops;
        int fined;
    }

    static final class Swallow {
        int nest;
        int eyes;
        int marks;
    }

    static final class State {
        int state;
        int day;
        int rent;
        int next;
        List<Someone> people = new ArrayList<>();
        List<Swallow> swallows = new ArrayList<>();
        List<Use> uses = new ArrayList<>();
        List<Line> book = new ArrayList<>();

        State copy() {
            State c = new State();
            c.state = state;
            c.day = day;
            c.rent = rent;
            c.next = next;
            for (Someone p : people) {
                Someone q = new Someone();
                q.tall = p.tall;
                q.purse = p.purse;
                q.roof = p.roof;
                q.stoops = p.stoops;
                q.fined = p.fined;
                c.people.add(q);
            }
            for (Swallow s : swallows) {
                Swallow t = new Swallow();
                t.nest = s.nest;
                t.eyes = s.eyes;
                t.marks = s.marks;
                c.swallows.add(t);
            }
            c.uses.addAll(uses);
            c.book.addAll(book);
            return c;
        }
    }

    record Picture(State state, List<LawLine> law, List<Petition> petitions, List<int[]> lease, List<int[]> cites) {
    }

    State s = new State();
    List<LawLine> law = List.of();
    List<Petition> petitions = List.of();
    List<int[]> lease = List.of();
    List<int[]> cites = List.of();
    ArrayDeque<State> back = new ArrayDeque<>();
    Picture picture;
    String tape = "";
    int fault = 0;
    int faultPlace = -1;
    boolean thinking;
    private List<Token> tokens = new ArrayList<>();
    private int at;
    private int end;

    private void keep() {
        back.addLast(s.copy());
        if (back.size() > 6) {
            back.removeFirst();
        }
    }

    int state(int v) {
        int was = s.state;
        s.state = v;
        back.clear();
        return was;
    }

    private static boolean in(int v, int least, int most) {
        return least <= v && v <= most;
    }

    int person(int tall, int roof, int purse) {
        if (!in(tall, 0, 7) || !in(roof, 0, 9) || !in(purse, 0, 9999) || s.people.size() == 10) {
            return -1;
        }
        Someone p = new Someone();
        p.tall = tall;
        p.roof = roof;
        p.purse = purse;
        s.people.add(p);
        back.clear();
        return s.people.size() - 1;
    }

    int swallow(int nest, int eyes) {
        if (!in(nest, 0, 9) || !in(eyes, 1, 9) || s.swallows.size() == 10) {
            return -1;
        }
        Swallow b = new Swallow();
        b.nest = nest;
        b.eyes = eyes;
        s.swallows.add(b);
        back.clear();
        return s.swallows.size() - 1;
    }

    boolean set(int what, int who, int v) {
        int[] least = {0, 0, 0, 0, 1, 0};
        int[] most = {7, 9999, 9, 7, 9, 9999};
        if (!in(what, 0, 5) || !in(v, least[what], most[what])
                || what < 4 && !in(who, 0, s.people.size() - 1)
                || what == 4 && !in(who, 0, s.swallows.size() - 1)) {
            return false;
        }
        switch (what) {
            case 0 -> s.people.get(who).tall = v;
            case 1 -> s.people.get(who).purse = v;
            case 2 -> s.people.get(who).roof = v;
            case 3 -> s.people.get(who).stoops = v;
            case 4 -> s.swallows.get(who).eyes = v;
            default -> s.day = v;
        }
        back.clear();
        return true;
    }

    private boolean summer() {
        return in(s.day % 360, 90, 269);
    }

    private boolean isUsed(int roof, int height) {
        return s.uses.stream().anyMatch(u -> u.roof == roof && in(height, u.from, u.to));
    }

    private int usedCells() {
        int count = 0;
        for (int c = 0; c < 80; c++) {
            count += isUsed(c / 8, c % 8) ? 1 : 0;
        }
        return count;
    }

    private Use wanted(int person, int kind, int roof, int heights, int days) {
        if (heights < 0) {
            return null;
        }
        int from = heights / 10;
        int to = heights % 10;
        boolean can = in(person, 0, s.people.size() - 1) && in(kind, 0, 5) && in(roof, 0, 9) && in(from, 0, 7)
                && in(to, from, 7) && in(days, 1, 30);
        return can ? new Use(-1, person, kind, roof, from, to, days, 0) : null;
    }

    private boolean fits(Use u) {
        boolean free = s.uses.size() < 16;
        for (int h = u.from; h <= u.to; h++) {
            free &= !isUsed(u.roof, h);
        }
        return free;
    }

    int told(String word, Use u) {
        Someone p = s.people.get(u.person);
        int nests = (int) s.swallows.stream().filter(b -> b.nest == u.roof).count();
        Facts f = new Facts(u.kind, u.to, u.days, u.roof, p.tall, p.fined, nests, summer() ? 1 : 0, usedCells(), s.day);
        int v = switch (word) {
            case "leave" -> 800 - 60 * f.high - 100 * f.nests;
            case "rent" -> f.days + f.high;
            default -> 5 * f.days;
        };
        for (LawLine line : law) {
            if (line.word.equals(word) && line.when.test(f)) {
                v = line.told.applyAsInt(f);
                break;
            }
        }
        return Math.min(word.equals("leave") ? 1000 : 999, Math.max(0, v));
    }

    private void writes(int what, int which, int much) {
        if (s.book.size() < 150) {
            s.book.add(new Line(s.day, what, which, much));
        }
    }

    private int begins(Use u, int leave, int what, int much) {
        s.uses.add(new Use(s.next, u.person, u.kind, u.roof, u.from, u.to, u.days, leave));
        writes(what, s.next, much);
        return s.next++;
    }

    private int pays(Someone p, int due) {
        int paid = p.purse < due ? p.purse : due;
        p.purse -= paid;
        s.rent += paid;
        return paid;
    }

    private int asks(Use u) {
        if (!summer()) {
            return begins(u, 1, 0, 0);
        }
        int leave = told("leave", u);
        boolean given = leave >= 500;
        if (!thinking) {
            s.state = s.state * 1664525 + 1013904223;
            given = Integer.toUnsignedLong(s.state) / 256 % 1000 < leave;
        }
        if (!given) {
            writes(1, u.person, leave);
            return -1;
        }
        return begins(u, 1, 0, pays(s.people.get(u.person), told("rent", u)));
    }

    int ask(int person, int kind, int roof, int heights, int days) {
        Use u = wanted(person, kind, roof, heights, days);
        if (u == null || !fits(u)) {
            return -2;
        }
        keep();
        return asks(u);
    }

    int take(int person, int kind, int roof, int heights, int days) {
        Use u = wanted(person, kind, roof, heights, days);
        if (u == null || !fits(u)) {
            return -2;
        }
        keep();
        return begins(u, 0, 2, person);
    }

    int would(int person, int kind, int roof, int heights, int days) {
        Use u = wanted(person, kind, roof, heights, days);
        if (u == null) {
            return -1;
        }
        return fits(u) ? told("leave", u) : -2 - told("leave", u);
    }

    boolean ends(int number) {
        for (Use u : s.uses) {
            if (u.number == number) {
                keep();
                writes(4, number, 0);
                s.uses.remove(u);
                return true;
            }
        }
        return false;
    }

    boolean nest(int swallow, int roof) {
        if (!in(swallow, 0, s.swallows.size() - 1) || !in(roof, 0, 9) || s.swallows.get(swallow).nest == roof) {
            return false;
        }
        keep();
        s.swallows.get(swallow).nest = roof;
        return true;
    }

    int leaseOf(int roof) {
        int found = -1;
        for (int[] turn : lease) {
            found = turn[0] == roof ? turn[1] : found;
        }
        return found;
    }

    boolean sees(int swallow, int roof) {
        Swallow b = s.swallows.get(swallow);
        for (int r = 0; r < 10; r++) {
            if ((b.nest == r || leaseOf(r) == swallow) && Math.abs(r - roof) * 3 <= b.eyes) {
                return true;
            }
        }
        return false;
    }

    private int passesDay() {
        for (Petition p : petitions) {
            Use u = new Use(-1, p.person, p.kind, p.roof, p.from, p.to, p.days, 0);
            if (p.day == s.day && fits(u)) {
                asks(u);
            }
        }
        int fined = 0;
        for (Use u : new ArrayList<>(s.uses)) {
            for (int b = 0; b < s.swallows.size() && summer() && u.leave == 0; b++) {
                if (sees(b, u.roof)) {
                    Someone p = s.people.get(u.person);
                    int paid = pays(p, told("fine", u));
                    p.fined += paid;
                    p.stoops = Math.min(7, p.stoops + 1);
                    s.swallows.get(b).marks++;
                    writes(3, u.number, paid);
                    s.uses.remove(u);
                    fined++;
                    break;
                }
            }
        }
        List<Use> yet = new ArrayList<>();
        for (Use u : s.uses) {
            if (u.days == 1) {
                writes(4, u.number, 0);
            } else {
                yet.add(new Use(u.number, u.person, u.kind, u.roof, u.from, u.to, u.days - 1, u.leave));
            }
        }
        s.uses = yet;
        if (s.day % 360 == 270) {
            s.people.forEach(p -> p.stoops = 0);
            s.swallows.forEach(b -> b.marks = 0);
        }
        s.day++;
        return fined;
    }

    int days(int n) {
        if (!in(n, 1, 60) || s.day + n > 9999) {
            return -1;
        }
        int fined = 0;
        for (int i = 0; i < n; i++) {
            keep();
            fined += passesDay();
        }
        return fined;
    }

    int goes(int n, int what) {
        if (!in(n, 1, 60) || !in(what, 0, 3)) {
            return -1;
        }
        State real = s;
        s = real.copy();
        thinking = true;
        for (int i = 0; i < n; i++) {
            passesDay();
        }
        int found = switch (what) {
            case 0 -> s.rent;
            case 1 -> s.uses.size();
            case 2 -> s.people.stream().mapToInt(p -> p.fined).sum();
            default -> s.swallows.stream().mapToInt(b -> b.marks).sum();
        };
        thinking = false;
        s = real;
        return found;
    }

    boolean undo() {
        if (back.isEmpty()) {
            return false;
        }
        s = back.removeLast();
        return true;
    }

    boolean image(boolean taken) {
        if (taken) {
            picture = new Picture(s.copy(), law, petitions, lease, cites);
            return true;
        }
        if (picture == null) {
            return false;
        }
        s = picture.state.copy();
        law = picture.law;
        petitions = picture.petitions;
        lease = picture.lease;
        cites = picture.cites;
        back.clear();
        return true;
    }

    int look(int what) {
        int[] all = {s.people.size(), s.swallows.size(), s.uses.size(), usedCells(), s.rent, summer() ? 1 : 0, s.day,
            s.book.size(), s.state, law.size(), petitions.size(), lease.size(), cites.size(), back.size()};
        return in(what, 0, 13) ? all[what] : -1;
    }

    int of(int person, int what) {
        if (!in(person, 0, s.people.size() - 1) || !in(what, 0, 4)) {
            return -1;
        }
        Someone p = s.people.get(person);
        return new int[] {p.tall, p.purse, p.roof, p.stoops, p.fined}[what];
    }

    int bird(int swallow, int what) {
        if (!in(swallow, 0, s.swallows.size() - 1) || !in(what, 0, 2) && !in(what, 10, 19)) {
            return -1;
        }
        Swallow b = s.swallows.get(swallow);
        return what >= 10 ? sees(swallow, what - 10) ? 1 : 0 : new int[] {b.nest, b.eyes, b.marks}[what];
    }

    int use(int i, int what) {
        if (!in(i, 0, s.uses.size() - 1) || !in(what, 0, 10)) {
            return -1;
        }
        Use u = s.uses.get(i);
        int[] all = {u.number, u.person, u.kind, u.roof, u.from, u.to, u.days, u.leave,
            told("leave", u), told("rent", u), told("fine", u)};
        return all[what];
    }

    int book(int i, int what) {
        if (!in(i, 0, s.book.size() - 1) || !in(what, 0, 3)) {
            return -1;
        }
        Line l = s.book.get(i);
        return new int[] {l.day, l.what, l.which, l.much}[what];
    }

    int text(int k) {
        String text = tape;
        tape = "";
        fault = 0;
        faultPlace = -1;
        if (!in(k, 0, 3)) {
            return -1;
        }
        try {
            return reads(k, text);
        } catch (Fault f) {
            fault = f.kind;
            faultPlace = f.place;
            return -1;
        }
    }

    private int reads(int k, String text) {
        tokens = new ArrayList<>();
        java.util.regex.Matcher m = java.util.regex.Pattern.compile("[A-Za-z]+|[0-9]+|[^ \n]", java.util.regex.Pattern.DOTALL)
                .matcher(text);
        while (m.find()) {
            tokens.add(new Token(m.group(), m.start()));
        }
        at = 0;
        end = text.length();
        List<LawLine> newLaw = new ArrayList<>();
        List<Petition> newPetitions = new ArrayList<>();
        List<int[]> newPairs = new ArrayList<>();
        int lines = 0;
        while (at < tokens.size()) {
            Token first = now();
            Set<String> openers = k == 0 ? Set.of("leave", "rent", "fine") : Set.of(new String[] {"", "on", "turn", "case"}[k]);
            if (!openers.contains(first.text)) {
                throw new Fault(1, first.place);
            }
            if (++lines > 16) {
                throw new Fault(3, first.place);
            }
            at++;
            switch (k) {
                case 0 -> newLaw.add(lawLine(first.text));
                case 1 -> newPetitions.add(petition());
                case 2 -> {
                    int roof = number(0, 9);
                    passes("to");
                    newPairs.add(new int[] {roof, number(0, s.swallows.size() - 1)});
                }
                default -> {
                    int one = number(0, 15);
                    passes("follows");
                    Token second = now();
                    int other = number(0, 15);
                    if (one == other) {
                        throw new Fault(2, second.place);
                    }
                    newPairs.add(new int[] {one, other});
                }
            }
            passes(";");
        }
        switch (k) {
            case 0 -> law = newLaw;
            case 1 -> petitions = newPetitions;
            case 2 -> lease = newPairs;
            default -> cites = newPairs;
        }
        if (k == 1 || k == 2) {
            back.clear();
        }
        return lines;
    }

    private Token now() {
        return at < tokens.size() ? tokens.get(at) : new Token("", end);
    }

    private boolean is(String text) {
        return now().text.equals(text);
    }

    private boolean skips(String text) {
        boolean there = is(text);
        at += there ? 1 : 0;
        return there;
    }

    private void passes(String text) {
        if (!skips(text)) {
            throw new Fault(1, now().place);
        }
    }

    private int number(int least, int most) {
        if (!now().isNumber()) {
            throw new Fault(1, now().place);
        }
        int v = Integer.parseInt(now().text);
        if (!in(v, least, most)) {
            throw new Fault(2, now().place);
        }
        at++;
        return v;
    }

    private Petition petition() {
        int day = number(0, 9999);
        passes("person");
        int person = number(0, s.people.size() - 1);
        int kind = Arrays.asList("kite", "washing", "umbrella", "bell", "balloon", "ball").indexOf(now().text);
        if (kind < 0) {
            throw new Fault(1, now().place);
        }
        at++;
        passes("at");
        int roof = number(0, 9);
        int from = number(0, 7);
        int to = number(from, 7);
        passes("for");
        return new Petition(day, person, kind, roof, from, to, number(1, 30));
    }

    private LawLine lawLine(String word) {
        ToIntFunction<Facts> told = e();
        Predicate<Facts> when = f -> true;
        if (skips("when")) {
            when = b(0);
        }
        return new LawLine(word, told, when);
    }

    private Predicate<Facts> b(int open) {
        Predicate<Facts> a = a(open);
        while (skips("or")) {
            a = a.or(a(open));
        }
        return a;
    }

    private Predicate<Facts> a(int open) {
        Predicate<Facts> c = c(open);
        while (skips("and")) {
            c = c.and(c(open));
        }
        return c;
    }

    private Predicate<Facts> c(int open) {
        if ((is("not") || is("(")) && open == 8) {
            throw new Fault(3, now().place);
        }
        if (skips("not")) {
            return c(open + 1).negate();
        }
        if (skips("(")) {
            Predicate<Facts> b = b(open + 1);
            passes(")");
            return b;
        }
        ToIntFunction<Facts> left = e();
        String sign = now().text;
        if (!Set.of("<", "=", ">").contains(sign)) {
            throw new Fault(1, now().place);
        }
        at++;
        ToIntFunction<Facts> right = e();
        return f -> {
            int c = Integer.compare(left.applyAsInt(f), right.applyAsInt(f));
            return sign.equals("<") ? c < 0 : sign.equals("=") ? c == 0 : c > 0;
        };
    }

    private ToIntFunction<Facts> e() {
        ToIntFunction<Facts> sum = t();
        while (is("+") || is("-")) {
            int factor = skips("+") ? 1 : -1;
            at += factor < 0 ? 1 : 0;
            ToIntFunction<Facts> left = sum;
            ToIntFunction<Facts> right = t();
            sum = f -> left.applyAsInt(f) + factor * right.applyAsInt(f);
        }
        return sum;
    }

    private ToIntFunction<Facts> t() {
        ToIntFunction<Facts> product = u();
        while (is("*") || is("/")) {
            ToIntFunction<Facts> left = product;
            if (skips("*")) {
                ToIntFunction<Facts> right = u();
                product = f -> left.applyAsInt(f) * right.applyAsInt(f);
            } else {
                at++;
                int by = number(1, 9999);
                product = f -> left.applyAsInt(f) / by;
            }
        }
        return product;
    }

    private ToIntFunction<Facts> u() {
        Token t = now();
        at++;
        if (t.isNumber()) {
            int v = Integer.parseInt(t.text);
            return f -> v;
        }
        return switch (t.text) {
            case "kind" -> Facts::kind;
            case "high" -> Facts::high;
            case "days" -> Facts::days;
            case "roof" -> Facts::roof;
            case "tall" -> Facts::tall;
            case "fined" -> Facts::fined;
            case "nests" -> Facts::nests;
            case "summer" -> Facts::summer;
            case "used" -> Facts::used;
            case "day" -> Facts::day;
            default -> throw new Fault(1, t.place);
        };
    }
}
