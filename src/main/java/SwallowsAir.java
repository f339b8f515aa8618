/** The air as the swallows' freehold: who uses it by their leave, who without, and what follows. */
public final class SwallowsAir {
    public static final int NONE = -1;

    private static final int ROOFS = 10;
    private static final int HEIGHTS = 8;
    private static final int KINDS = 6;
    private static final int PEOPLE = 10;
    private static final int SWALLOWS = 10;
    private static final int USES = 16;
    private static final int MOST_DAYS = 30;
    private static final int MOST_PURSE = 9999;
    private static final int LAST_DAY = 9999;
    private static final int LONGEST = 60;
    private static final int BOOK = 150;
    private static final int TAPE = 400;
    private static final int LINES = 16;
    private static final int CASES = 16;
    private static final int WISHES = 8;
    private static final int KITES = 10;
    private static final int EAVES = 6;
    private static final int MOST_WAY = 99;
    private static final int POINTS = 8;
    private static final int KEPT = 6;

    /* The columns of a row are in the order in which of(), bird(), use() and book() number them. */
    private static final int TALL = 0;
    private static final int PURSE = 1;
    private static final int HOME = 2;
    private static final int STOOPS = 3;
    private static final int FINED = 4;
    private static final int PERSON_WIDE = 5;

    private static final int NEST = 0;
    private static final int EYES = 1;
    private static final int MARKS = 2;
    private static final int BIRD_WIDE = 3;

    private static final int NUMBER = 0;
    private static final int PERSON = 1;
    private static final int KIND = 2;
    private static final int ROOF = 3;
    private static final int FROM = 4;
    private static final int TO = 5;
    private static final int DAYS = 6;
    private static final int LEAVE = 7;
    private static final int USE_WIDE = 8;

    private static final int BOOK_WIDE = 4;
    private static final int PETITION_WIDE = 7;
    private static final int WISH_WIDE = 3;
    private static final int KITE_WIDE = 2;
    private static final int POINT_WIDE = 4;

    private static final int BEGUN = 0;
    private static final int REFUSED = 1;
    private static final int TAKEN = 2;
    private static final int WAS_FINED = 3;
    private static final int ENDED = 4;

    private static final int THE_LAW = 0;
    private static final int PETITIONS = 1;
    private static final int LEASE = 2;
    private static final int CITES = 3;

    private final Affairs now = new Affairs();
    private final Affairs picture = new Affairs();
    private boolean hasPicture;
    private final World[] kept = new World[KEPT];
    private int keptCount;
    private int newest;
    private final World spare = new World();
    private final Keeper keeper = new Keeper(now);
    private final AirThought airThought = new AirThought(now.world);
    private final ToldThought toldThought = new ToldThought(now.told, now.cites);
    private final byte[] tape = new byte[TAPE];
    private int tapeLength;
    private final Reader reader = new Reader(tape);
    private final LawReader lawReader = new LawReader(reader);
    private final LineReader lineReader = new LineReader(reader);

    public SwallowsAir() {
        for (int i = 0; i < KEPT; i++) {
            kept[i] = new World();
        }
    }

    public int state(int v) {
        int was = now.world.state;
        now.world.state = v;
        forgetKept();
        return was;
    }

    public int person(int tall, int roof, int purse) {
        World w = now.world;
        if (w.people >= PEOPLE || !within(tall, HEIGHTS - 1) || !within(roof, ROOFS - 1)
                || !within(purse, MOST_PURSE)) {
            return NONE;
        }
        int at = PERSON_WIDE * w.people;
        w.persons[at + TALL] = tall;
        w.persons[at + PURSE] = purse;
        w.persons[at + HOME] = roof;
        w.persons[at + STOOPS] = 0;
        w.persons[at + FINED] = 0;
        w.people++;
        forgetKept();
        return w.people - 1;
    }

    public int swallow(int nest, int eyes) {
        World w = now.world;
        if (w.swallows >= SWALLOWS || !within(nest, ROOFS - 1) || eyes < 1 || eyes > 9) {
            return NONE;
        }
        int at = BIRD_WIDE * w.swallows;
        w.birds[at + NEST] = nest;
        w.birds[at + EYES] = eyes;
        w.birds[at + MARKS] = 0;
        w.swallows++;
        forgetKept();
        return w.swallows - 1;
    }

    public boolean set(int what, int who, int v) {
        boolean told;
        switch (what) {
            case 0: told = setPerson(TALL, who, v, HEIGHTS - 1); break;
            case 1: told = setPerson(PURSE, who, v, MOST_PURSE); break;
            case 2: told = setPerson(HOME, who, v, ROOFS - 1); break;
            case 3: told = setPerson(STOOPS, who, v, 7); break;
            case 4: told = setEyes(who, v); break;
            case 5: told = setDay(v); break;
            default: told = false; break;
        }
        if (told) {
            forgetKept();
        }
        return told;
    }

    public int ask(int person, int kind, int roof, int heights, int days) {
        if (!keeper.wants(person, kind, roof, heights, days) || !keeper.fits()) {
            return NONE - 1;
        }
        keep();
        return keeper.asks();
    }

    public int take(int person, int kind, int roof, int heights, int days) {
        if (!keeper.wants(person, kind, roof, heights, days) || !keeper.fits()) {
            return NONE - 1;
        }
        keep();
        return keeper.takes();
    }

    public boolean ends(int use) {
        int i = now.world.placeOf(use);
        if (i == NONE) {
            return false;
        }
        keep();
        keeper.closes(i);
        return true;
    }

    public boolean nest(int swallow, int roof) {
        World w = now.world;
        if (!w.hasSwallow(swallow) || !within(roof, ROOFS - 1) || w.birds[BIRD_WIDE * swallow + NEST] == roof) {
            return false;
        }
        keep();
        w.birds[BIRD_WIDE * swallow + NEST] = roof;
        return true;
    }

    public int days(int n) {
        if (!canGoBy(n) || now.world.day + n > LAST_DAY) {
            return NONE;
        }
        int fined = 0;
        for (int i = 0; i < n; i++) {
            keep();
            fined += keeper.passesDay();
        }
        return fined;
    }

    public int feed(int a, int b, int c, int d, int e) {
        if (tapeLength + 20 > TAPE) {
            return NONE;
        }
        putBytes(a);
        putBytes(b);
        putBytes(c);
        putBytes(d);
        putBytes(e);
        return tapeLength;
    }

    public boolean end(int n) {
        if (!within(n, tapeLength)) {
            return false;
        }
        tapeLength = n;
        return true;
    }

    public int text(int k) {
        reader.opens(tapeLength, k);
        tapeLength = 0;
        if (k == THE_LAW) {
            if (!lawReader.reads()) {
                return NONE;
            }
            now.law.becomes(lawReader.draft);
            return now.law.lines;
        }
        if (!within(k, CITES) || !lineReader.reads(k, now.world.people, now.world.swallows)) {
            return NONE;
        }
        now.isTold(k, lineReader.draft);
        if (k != CITES) {
            forgetKept();
        }
        return lineReader.draft.lines;
    }

    public int fault(int what) {
        switch (what) {
            case 0: return reader.fault;
            case 1: return reader.faultPlace;
            default: return NONE;
        }
    }

    public int of(int person, int what) {
        if (!now.world.hasPerson(person) || !within(what, PERSON_WIDE - 1)) {
            return NONE;
        }
        return now.world.persons[PERSON_WIDE * person + what];
    }

    public int bird(int swallow, int what) {
        if (!now.world.hasSwallow(swallow)) {
            return NONE;
        }
        if (within(what, BIRD_WIDE - 1)) {
            return now.world.birds[BIRD_WIDE * swallow + what];
        }
        if (what >= 10 && what < 10 + ROOFS) {
            return now.sees(swallow, what - 10) ? 1 : 0;
        }
        return NONE;
    }

    public int use(int i, int what) {
        World w = now.world;
        if (i < 0 || i >= w.uses || !within(what, USE_WIDE + 2)) {
            return NONE;
        }
        if (what < USE_WIDE) {
            return w.rows[USE_WIDE * i + what];
        }
        return now.law.tells(what - USE_WIDE, w, w.rows, USE_WIDE * i);
    }

    public int lease(int roof) {
        return within(roof, ROOFS - 1) ? now.leases[roof] : NONE;
    }

    public int book(int i, int what) {
        if (i < 0 || i >= now.world.lines || !within(what, BOOK_WIDE - 1)) {
            return NONE;
        }
        return now.book[BOOK_WIDE * i + what];
    }

    public int would(int person, int kind, int roof, int heights, int days) {
        if (!keeper.wants(person, kind, roof, heights, days)) {
            return NONE;
        }
        int leave = now.law.tells(Law.WORD_LEAVE, now.world, keeper.wanted, 0);
        return keeper.fits() ? leave : NONE - 1 - leave;
    }

    /** In thought DAY may go beyond the last one: nothing of it stays. */
    public int goes(int n, int what) {
        if (!canGoBy(n) || !within(what, 3)) {
            return NONE;
        }
        spare.becomes(now.world);
        keeper.thinking = true;
        for (int i = 0; i < n; i++) {
            keeper.passesDay();
        }
        int found = tally(what);
        keeper.thinking = false;
        now.world.becomes(spare);
        return found;
    }

    public int through(int a, int b, int what) {
        if (!isCell(a) || !isCell(b) || !within(what, 1) || !airThought.walks(a, b)) {
            return NONE;
        }
        return what == 0 ? airThought.foundSteps : airThought.foundWays;
    }

    public int wide(int what) {
        if (!within(what, 1)) {
            return NONE;
        }
        airThought.widens();
        return what == 0 ? airThought.widest : airThought.widestCell;
    }

    public int wish(int from, int last, int worth) {
        Told t = now.told;
        if (from == NONE) {
            t.wishes = 0;
            return 0;
        }
        if (t.wishes >= WISHES || !within(from, 99) || last < from || last > 99 || !within(worth, 99)) {
            return NONE;
        }
        int at = WISH_WIDE * t.wishes;
        t.wishRows[at] = from;
        t.wishRows[at + 1] = last;
        t.wishRows[at + 2] = worth;
        t.wishes++;
        return t.wishes;
    }

    public int beside(int what) {
        if (!within(what, 1)) {
            return NONE;
        }
        toldThought.choosesWishes();
        return what == 0 ? toldThought.foundSum : toldThought.foundSet;
    }

    public int kite(int hand, int sky) {
        Told t = now.told;
        if (hand == NONE) {
            t.kites = 0;
            return 0;
        }
        if (t.kites >= KITES || !within(hand, 99) || !within(sky, 99)) {
            return NONE;
        }
        t.kiteRows[KITE_WIDE * t.kites] = hand;
        t.kiteRows[KITE_WIDE * t.kites + 1] = sky;
        t.kites++;
        return t.kites;
    }

    public int strings(int what) {
        switch (what) {
            case 0: return toldThought.crossings();
            case 1: return toldThought.layers();
            default: return NONE;
        }
    }

    public boolean way(int swallow, int eave, int v) {
        if (!within(swallow, EAVES - 1) || !within(eave, EAVES - 1) || !within(v, MOST_WAY)) {
            return false;
        }
        now.told.ways[EAVES * swallow + eave] = v;
        return true;
    }

    public int eaves(int what) {
        if (what == 0) {
            return toldThought.leastWays();
        }
        if (what >= 10 && what < 10 + EAVES) {
            return toldThought.eaveOf(what - 10);
        }
        return NONE;
    }

    public int cites(int n, int what) {
        if (!within(n, CASES - 1)) {
            return NONE;
        }
        switch (what) {
            case 0: return toldThought.founds(n);
            case 1: return toldThought.placeOf(n);
            default: return NONE;
        }
    }

    public boolean voice(int roof, int roofs) {
        if (!within(roof, ROOFS - 1) || !within(roofs, (1 << ROOFS) - 1)) {
            return false;
        }
        now.told.voices[roof] = roofs | 1 << roof;
        return true;
    }

    public int asked(int what) {
        if (!within(what, 1)) {
            return NONE;
        }
        toldThought.choosesCallers();
        return what == 0 ? toldThought.foundSum : toldThought.foundSet;
    }

    public int upright(int person, int what) {
        World w = now.world;
        if (!w.hasPerson(person) || !within(what, 1)) {
            return NONE;
        }
        int at = PERSON_WIDE * person;
        int free = airThought.freeFromGround(w.persons[at + HOME]);
        if (what == 0) {
            return free;
        }
        return Math.max(0, w.persons[at + TALL] - w.persons[at + STOOPS]) <= free ? 1 : 0;
    }

    public int point(int one, int other, int mark, int weight) {
        Told t = now.told;
        if (one == NONE) {
            t.points = 0;
            return 0;
        }
        if (t.points >= POINTS || !within(one, 999) || !within(other, 999) || !within(mark, 999)
                || !within(weight, 9)) {
            return NONE;
        }
        int at = POINT_WIDE * t.points;
        t.pointRows[at] = one;
        t.pointRows[at + 1] = other;
        t.pointRows[at + 2] = mark;
        t.pointRows[at + 3] = weight;
        t.points++;
        return t.points;
    }

    public int arbiter(int what) {
        if (!within(what, 1)) {
            return NONE;
        }
        toldThought.arbitrates();
        return what == 0 ? toldThought.foundSum : toldThought.foundCount;
    }

    public int ball(int v, int g, int what) {
        if (v < 1 || v > 40 || g < 1 || g > 9 || !within(what, 1)) {
            return NONE;
        }
        int high = v;
        int highest = v;
        int speed = v;
        int day = 1;
        /* At the weakest pull it is back behind 2 * v + 1 days. */
        for (int i = 0; i < 100 && high > 0; i++) {
            speed -= g;
            high += speed;
            highest = Math.max(highest, high);
            day++;
        }
        return what == 0 ? highest : day;
    }

    public int game(int what) {
        if (!within(what, 1)) {
            return NONE;
        }
        return airThought.gameMove(what);
    }

    public int leaps(int n) {
        if (n < 1 || n >= ROOFS) {
            return NONE;
        }
        return airThought.leapWays(n);
    }

    public boolean undo() {
        if (keptCount <= 0) {
            return false;
        }
        now.world.becomes(kept[newest]);
        newest = (newest + KEPT - 1) % KEPT;
        keptCount--;
        return true;
    }

    public boolean image(boolean taken) {
        if (taken) {
            picture.becomes(now);
            hasPicture = true;
            return true;
        }
        if (!hasPicture) {
            return false;
        }
        now.becomes(picture);
        forgetKept();
        return true;
    }

    public int look(int what) {
        World w = now.world;
        switch (what) {
            case 0: return w.people;
            case 1: return w.swallows;
            case 2: return w.uses;
            case 3: return w.usedCells();
            case 4: return w.rent;
            case 5: return w.isSummer() ? 1 : 0;
            case 6: return w.day;
            case 7: return w.lines;
            case 8: return w.state;
            case 9: return now.law.lines;
            case 10: return now.petitions.lines;
            case 11: return now.leaseLines;
            case 12: return now.cites.lines;
            case 13: return keptCount;
            default: return NONE;
        }
    }

    private static boolean within(int v, int most) {
        return v >= 0 && v <= most;
    }

    private static boolean isCell(int cell) {
        return cell >= 0 && cell / 10 < ROOFS && cell % 10 < HEIGHTS;
    }

    private static boolean canGoBy(int n) {
        return n >= 1 && n <= LONGEST;
    }

    private boolean setPerson(int column, int who, int v, int most) {
        if (!now.world.hasPerson(who) || !within(v, most)) {
            return false;
        }
        now.world.persons[PERSON_WIDE * who + column] = v;
        return true;
    }

    private boolean setEyes(int who, int v) {
        if (!now.world.hasSwallow(who) || v < 1 || v > 9) {
            return false;
        }
        now.world.birds[BIRD_WIDE * who + EYES] = v;
        return true;
    }

    private boolean setDay(int v) {
        if (!within(v, LAST_DAY)) {
            return false;
        }
        now.world.day = v;
        return true;
    }

    private void putBytes(int v) {
        for (int shift = 24; shift >= 0 && tapeLength < TAPE; shift -= 8) {
            tape[tapeLength] = (byte) (v >> shift);
            tapeLength++;
        }
    }

    private void keep() {
        newest = (newest + 1) % KEPT;
        World place = kept[newest];
        if (place != null) {
            place.becomes(now.world);
            keptCount = Math.min(KEPT, keptCount + 1);
        }
    }

    private void forgetKept() {
        keptCount = 0;
    }

    private int tally(int what) {
        switch (what) {
            case 0: return now.world.rent;
            case 1: return now.world.uses;
            case 2: return now.world.finedOfAll();
            default: return now.world.marksOfAll();
        }
    }

    /**
     * All that askings, takings, endings, nestings and days change, so that one copy of it undoes any of
     * them. Of the book it has only how long it is: lines are only ever added, so going back is to count fewer.
     */
    private static final class World {
        int state;
        int day;
        int rent;
        int nextNumber;
        int people;
        int swallows;
        int uses;
        int lines;
        final int[] persons = new int[PEOPLE * PERSON_WIDE];
        final int[] birds = new int[SWALLOWS * BIRD_WIDE];
        final int[] rows = new int[USES * USE_WIDE];

        void becomes(World other) {
            if (other == null) {
                return;
            }
            state = other.state;
            day = other.day;
            rent = other.rent;
            nextNumber = other.nextNumber;
            people = other.people;
            swallows = other.swallows;
            uses = other.uses;
            lines = other.lines;
            System.arraycopy(other.persons, 0, persons, 0, persons.length);
            System.arraycopy(other.birds, 0, birds, 0, birds.length);
            System.arraycopy(other.rows, 0, rows, 0, rows.length);
        }

        boolean hasPerson(int person) {
            return person >= 0 && person < people;
        }

        boolean hasSwallow(int swallow) {
            return swallow >= 0 && swallow < swallows;
        }

        boolean isSummer() {
            int ofYear = day % 360;
            return ofYear >= 90 && ofYear <= 269;
        }

        int drawsOfThousand() {
            state = 1664525 * state + 1013904223;
            return (state >>> 8) % 1000;
        }

        int placeOf(int number) {
            for (int i = 0; i < uses; i++) {
                if (rows[USE_WIDE * i + NUMBER] == number) {
                    return i;
                }
            }
            return NONE;
        }

        /** The used heights above a roof, a bit for each. */
        int usedAbove(int roof) {
            int used = 0;
            for (int at = 0; at < USE_WIDE * uses; at += USE_WIDE) {
                if (rows[at + ROOF] == roof) {
                    used |= span(rows[at + FROM], rows[at + TO]);
                }
            }
            return used;
        }

        static int span(int from, int to) {
            return (1 << to + 1) - (1 << from);
        }

        int usedCells() {
            int cells = 0;
            for (int at = 0; at < USE_WIDE * uses; at += USE_WIDE) {
                cells += rows[at + TO] - rows[at + FROM] + 1;
            }
            return cells;
        }

        int nestsAt(int roof) {
            int nests = 0;
            for (int s = 0; s < swallows; s++) {
                if (birds[BIRD_WIDE * s + NEST] == roof) {
                    nests++;
                }
            }
            return nests;
        }

        int pays(int person, int due) {
            int paid = Math.min(due, persons[PERSON_WIDE * person + PURSE]);
            persons[PERSON_WIDE * person + PURSE] -= paid;
            rent += paid;
            return paid;
        }

        int finedOfAll() {
            int sum = 0;
            for (int p = 0; p < people; p++) {
                sum += persons[PERSON_WIDE * p + FINED];
            }
            return sum;
        }

        int marksOfAll() {
            int sum = 0;
            for (int s = 0; s < swallows; s++) {
                sum += birds[BIRD_WIDE * s + MARKS];
            }
            return sum;
        }

        void clearsMarksAndStoops() {
            for (int p = 0; p < people; p++) {
                persons[PERSON_WIDE * p + STOOPS] = 0;
            }
            for (int s = 0; s < swallows; s++) {
                birds[BIRD_WIDE * s + MARKS] = 0;
            }
        }

        void removes(int i) {
            int at = USE_WIDE * i;
            int behind = USE_WIDE * (uses - i - 1);
            if (at < 0 || behind < 0) {
                return;
            }
            System.arraycopy(rows, at + USE_WIDE, rows, at, behind);
            uses--;
        }
    }

    /** All that is and was told: what an image holds. */
    private static final class Affairs {
        final World world = new World();
        final int[] book = new int[BOOK * BOOK_WIDE];
        final Law law = new Law();
        final Sheet petitions = new Sheet(PETITION_WIDE);
        final int[] leases = new int[ROOFS];
        int leaseLines;
        final Sheet cites = new Sheet(2);
        final Told told = new Told();

        Affairs() {
            for (int r = 0; r < ROOFS; r++) {
                leases[r] = NONE;
            }
        }

        void becomes(Affairs other) {
            world.becomes(other.world);
            System.arraycopy(other.book, 0, book, 0, BOOK_WIDE * world.lines);
            law.becomes(other.law);
            petitions.becomes(other.petitions);
            System.arraycopy(other.leases, 0, leases, 0, ROOFS);
            leaseLines = other.leaseLines;
            cites.becomes(other.cites);
            told.becomes(other.told);
        }

        void isTold(int k, Sheet draft) {
            if (k == PETITIONS) {
                petitions.becomes(draft);
            } else if (k == LEASE) {
                leases(draft);
            } else {
                cites.becomes(draft);
            }
        }

        private void leases(Sheet draft) {
            leaseLines = draft.lines;
            for (int r = 0; r < ROOFS; r++) {
                leases[r] = NONE;
            }
            for (int i = 0; i < draft.lines; i++) {
                int roof = draft.rows[2 * i];
                if (within(roof, ROOFS - 1)) {
                    leases[roof] = draft.rows[2 * i + 1];
                }
            }
        }

        void writes(int what, int which, int much) {
            if (world.lines >= BOOK) {
                return;
            }
            int at = BOOK_WIDE * world.lines;
            book[at] = world.day;
            book[at + 1] = what;
            book[at + 2] = which;
            book[at + 3] = much;
            world.lines++;
        }

        boolean sees(int swallow, int roof) {
            int reach = world.birds[BIRD_WIDE * swallow + EYES] / 3;
            if (Math.abs(world.birds[BIRD_WIDE * swallow + NEST] - roof) <= reach) {
                return true;
            }
            int last = Math.min(ROOFS - 1, roof + reach);
            for (int r = Math.max(0, roof - reach); r <= last; r++) {
                if (leases[r] == swallow) {
                    return true;
                }
            }
            return false;
        }

        int seerOf(int roof) {
            for (int s = 0; s < world.swallows; s++) {
                if (sees(s, roof)) {
                    return s;
                }
            }
            return NONE;
        }
    }

    /** Lets things happen: asking, taking, ending, a day. In thought leave is not drawn for. */
    private static final class Keeper {
        final Affairs all;
        final World world;
        final int[] wanted = new int[USE_WIDE];
        boolean thinking;

        Keeper(Affairs all) {
            this.all = all;
            this.world = all.world;
        }

        boolean wants(int person, int kind, int roof, int heights, int days) {
            if (!world.hasPerson(person) || !within(kind, KINDS - 1) || !within(roof, ROOFS - 1)
                    || heights < 0 || days < 1 || days > MOST_DAYS) {
                return false;
            }
            int from = heights / 10;
            int to = heights % 10;
            if (to < from || to >= HEIGHTS) {
                return false;
            }
            wanted[PERSON] = person;
            wanted[KIND] = kind;
            wanted[ROOF] = roof;
            wanted[FROM] = from;
            wanted[TO] = to;
            wanted[DAYS] = days;
            return true;
        }

        boolean fits() {
            int cells = World.span(wanted[FROM], wanted[TO]);
            return world.uses < USES && (world.usedAbove(wanted[ROOF]) & cells) == 0;
        }

        int asks() {
            if (!world.isSummer()) {
                return begins(1, BEGUN, 0);
            }
            int leave = all.law.tells(Law.WORD_LEAVE, world, wanted, 0);
            boolean given = thinking ? leave >= 500 : world.drawsOfThousand() < leave;
            if (!given) {
                all.writes(REFUSED, wanted[PERSON], leave);
                return NONE;
            }
            int rent = all.law.tells(Law.WORD_RENT, world, wanted, 0);
            return begins(1, BEGUN, world.pays(wanted[PERSON], rent));
        }

        int takes() {
            return begins(0, TAKEN, wanted[PERSON]);
        }

        private int begins(int leave, int what, int much) {
            int number = world.nextNumber;
            wanted[NUMBER] = number;
            wanted[LEAVE] = leave;
            System.arraycopy(wanted, 0, world.rows, USE_WIDE * world.uses, USE_WIDE);
            world.uses++;
            world.nextNumber++;
            all.writes(what, number, much);
            return number;
        }

        void closes(int i) {
            all.writes(ENDED, world.rows[USE_WIDE * i + NUMBER], 0);
            world.removes(i);
        }

        int passesDay() {
            hears();
            int fined = world.isSummer() ? fines() : 0;
            wears();
            if (world.day % 360 == 270) {
                world.clearsMarksAndStoops();
            }
            world.day++;
            return fined;
        }

        private void hears() {
            Sheet petitions = all.petitions;
            for (int i = 0; i < petitions.lines; i++) {
                int at = PETITION_WIDE * i;
                if (petitions.rows[at] == world.day) {
                    System.arraycopy(petitions.rows, at + PERSON, wanted, PERSON, PETITION_WIDE - 1);
                    if (fits()) {
                        asks();
                    }
                }
            }
        }

        private int fines() {
            int before = world.uses;
            int i = 0;
            for (int n = 0; n < before; n++) {
                int at = USE_WIDE * i;
                int seer = world.rows[at + LEAVE] == 1 ? NONE : all.seerOf(world.rows[at + ROOF]);
                if (seer == NONE) {
                    i++;
                } else {
                    finesUse(i, seer);
                }
            }
            return before - world.uses;
        }

        private void finesUse(int i, int seer) {
            int at = USE_WIDE * i;
            int person = world.rows[at + PERSON];
            int fine = all.law.tells(Law.WORD_FINE, world, world.rows, at);
            int paid = world.pays(person, fine);
            int stoops = world.persons[PERSON_WIDE * person + STOOPS];
            world.persons[PERSON_WIDE * person + FINED] += paid;
            world.persons[PERSON_WIDE * person + STOOPS] = Math.min(7, stoops + 1);
            world.birds[BIRD_WIDE * seer + MARKS]++;
            all.writes(WAS_FINED, world.rows[at + NUMBER], paid);
            world.removes(i);
        }

        private void wears() {
            int before = world.uses;
            int i = 0;
            for (int n = 0; n < before; n++) {
                world.rows[USE_WIDE * i + DAYS]--;
                if (world.rows[USE_WIDE * i + DAYS] <= 0) {
                    closes(i);
                } else {
                    i++;
                }
            }
        }
    }

    /** The law, each line's parts as codes that work on a stack: the number or fact to put, or the sign to apply. */
    private static final class Law {
        static final int WORD_LEAVE = 0;
        static final int WORD_RENT = 1;
        static final int WORD_FINE = 2;
        static final int FACT = 10000;
        static final int SIGN = 20000;
        static final int FACTS = 10;
        /* Eight open brackets with two parts waiting in each, and the four that a comparison takes, are fewer. */
        static final int STACK = 32;

        int lines;
        int length;
        final int[] word = new int[LINES];
        final int[] whenAt = new int[LINES];
        final int[] endAt = new int[LINES];
        final short[] codes = new short[TAPE];
        final int[] facts = new int[FACTS];
        final int[] stack = new int[STACK];

        void becomes(Law other) {
            lines = other.lines;
            length = other.length;
            System.arraycopy(other.word, 0, word, 0, lines);
            System.arraycopy(other.whenAt, 0, whenAt, 0, lines);
            System.arraycopy(other.endAt, 0, endAt, 0, lines);
            System.arraycopy(other.codes, 0, codes, 0, length);
        }

        void clears() {
            lines = 0;
            length = 0;
        }

        void adds(int code) {
            if (length < TAPE) {
                codes[length] = (short) code;
                length++;
            }
        }

        /** What it tells for a word of the use whose row stands at a place of rows. */
        int tells(int asked, World world, int[] rows, int at) {
            learns(world, rows, at);
            int told = usual(asked);
            for (int i = 0; i < lines; i++) {
                boolean always = whenAt[i] == endAt[i];
                if (word[i] == asked && (always || value(whenAt[i], endAt[i]) != 0)) {
                    told = value(i == 0 ? 0 : endAt[i - 1], whenAt[i]);
                    break;
                }
            }
            return Math.max(0, Math.min(asked == WORD_LEAVE ? 1000 : 999, told));
        }

        private void learns(World world, int[] rows, int at) {
            int person = PERSON_WIDE * rows[at + PERSON];
            facts[0] = rows[at + KIND];
            facts[1] = rows[at + TO];
            facts[2] = rows[at + DAYS];
            facts[3] = rows[at + ROOF];
            facts[4] = world.persons[person + TALL];
            facts[5] = world.persons[person + FINED];
            facts[6] = world.nestsAt(rows[at + ROOF]);
            facts[7] = world.isSummer() ? 1 : 0;
            facts[8] = world.usedCells();
            facts[9] = world.day;
        }

        private int usual(int asked) {
            int high = facts[1];
            int days = facts[2];
            switch (asked) {
                case WORD_LEAVE: return 800 - 60 * high - 100 * facts[6];
                case WORD_RENT: return days + high;
                default: return 5 * days;
            }
        }

        private int value(int from, int to) {
            int top = 0;
            for (int i = from; i < to && i < length; i++) {
                int code = codes[i];
                if (code >= SIGN) {
                    if (top >= 2) {
                        top--;
                        stack[top - 1] = joined(code - SIGN, stack[top - 1], stack[top]);
                    }
                } else if (top < STACK) {
                    stack[top] = code < FACT ? code : fact(code - FACT);
                    top++;
                }
            }
            return top > 0 ? stack[top - 1] : 0;
        }

        private int fact(int f) {
            return within(f, FACTS - 1) ? facts[f] : 0;
        }

        private static int joined(int sign, int a, int b) {
            switch (sign) {
                case '+': return a + b;
                case '-': return a - b;
                case '*': return a * b;
                case '/': return b == 0 ? 0 : a / b;
                case '<': return a < b ? 1 : 0;
                case '=': return a == b ? 1 : 0;
                case '>': return a > b ? 1 : 0;
                case '&': return a & b;
                default: return a | b;
            }
        }
    }

    /** The lines of petitions, of a lease or of cites: their numbers, row by row. */
    private static final class Sheet {
        int lines;
        final int[] rows;

        Sheet(int wide) {
            rows = new int[LINES * Math.max(1, wide)];
        }

        void becomes(Sheet other) {
            lines = other.lines;
            System.arraycopy(other.rows, 0, rows, 0, Math.min(rows.length, other.rows.length));
        }
    }

    /** What is told for thought alone. */
    private static final class Told {
        int wishes;
        int kites;
        int points;
        final int[] wishRows = new int[WISHES * WISH_WIDE];
        final int[] kiteRows = new int[KITES * KITE_WIDE];
        final int[] pointRows = new int[POINTS * POINT_WIDE];
        final int[] ways = new int[EAVES * EAVES];
        final int[] voices = new int[ROOFS];

        Told() {
            for (int r = 0; r < ROOFS; r++) {
                voices[r] = 1 << r;
            }
        }

        void becomes(Told other) {
            wishes = other.wishes;
            kites = other.kites;
            points = other.points;
            System.arraycopy(other.wishRows, 0, wishRows, 0, wishRows.length);
            System.arraycopy(other.kiteRows, 0, kiteRows, 0, kiteRows.length);
            System.arraycopy(other.pointRows, 0, pointRows, 0, pointRows.length);
            System.arraycopy(other.ways, 0, ways, 0, ways.length);
            System.arraycopy(other.voices, 0, voices, 0, voices.length);
        }
    }

    /** Goes through the tape token by token, and holds the first fault that was found. */
    private static final class Reader {
        static final int END = 0;
        static final int WORD = 1;
        static final int DIGITS = 2;
        static final int SIGN = 3;
        static final int WRONG = 4;

        /* A word's number is its place here: the facts of the law stand together, and so do the kinds. */
        static final String LAW_WORDS =
                "leave rent fine when or and not kind high days roof tall fined nests summer used day ";
        static final String PETITION_WORDS = "on person kite washing umbrella bell balloon ball at for ";
        static final String LEASE_WORDS = "turn to ";
        static final String CITE_WORDS = "case follows ";
        static final String SIGNS = ";+-*/()<=>";

        final byte[] text;
        int length;
        String words = LAW_WORDS;
        int place;
        int next;
        int token;
        int value;
        int fault;
        int faultPlace = NONE;

        Reader(byte[] text) {
            this.text = text;
        }

        void opens(int textLength, int k) {
            length = Math.min(textLength, text.length);
            next = 0;
            fault = 0;
            faultPlace = NONE;
            switch (k) {
                case PETITIONS: words = PETITION_WORDS; break;
                case LEASE: words = LEASE_WORDS; break;
                case CITES: words = CITE_WORDS; break;
                default: words = LAW_WORDS; break;
            }
            advances();
        }

        boolean fails(int kind) {
            fault = kind;
            faultPlace = place;
            return false;
        }

        boolean isWord(int word) {
            return token == WORD && value == word;
        }

        boolean isSign(char sign) {
            return token == SIGN && value == sign;
        }

        boolean passesWord(int word) {
            if (!isWord(word)) {
                return fails(1);
            }
            advances();
            return true;
        }

        boolean passesSign(char sign) {
            if (!isSign(sign)) {
                return fails(1);
            }
            advances();
            return true;
        }

        void advances() {
            place = next;
            while (place < length && (text[place] == ' ' || text[place] == '\n')) {
                place++;
            }
            next = place;
            if (place >= length) {
                token = END;
            } else if (isLetter(text[place])) {
                while (next < length && isLetter(text[next])) {
                    next++;
                }
                value = wordNumber();
                token = value == NONE ? WRONG : WORD;
            } else if (isDigit(text[place])) {
                readsDigits();
            } else {
                next = place + 1;
                value = text[place];
                token = value > 0 && SIGNS.indexOf((char) value) >= 0 ? SIGN : WRONG;
            }
        }

        private void readsDigits() {
            value = 0;
            while (next < length && isDigit(text[next])) {
                value = next - place < 4 ? 10 * value + text[next] - '0' : value;
                next++;
            }
            token = next - place <= 4 ? DIGITS : WRONG;
        }

        private static boolean isLetter(byte b) {
            return b >= 'a' && b <= 'z' || b >= 'A' && b <= 'Z';
        }

        private static boolean isDigit(byte b) {
            return b >= '0' && b <= '9';
        }

        private int wordNumber() {
            int number = 0;
            int at = place;
            boolean same = true;
            for (int i = 0; i < words.length(); i++) {
                char c = words.charAt(i);
                if (c != ' ') {
                    same = same && at < next && text[at] == c;
                    at++;
                } else if (same && at == next) {
                    return number;
                } else {
                    number++;
                    at = place;
                    same = true;
                }
            }
            return NONE;
        }
    }

    /** Reads a law into a draft, so that a fault leaves the law that there was. */
    private static final class LawReader {
        static final int WHEN = 3;
        static final int OR = 4;
        static final int AND = 5;
        static final int NOT = 6;
        static final int FIRST_FACT = 7;
        static final int OPEN_AT_MOST = 8;

        final Reader reader;
        final Law draft = new Law();

        LawReader(Reader reader) {
            this.reader = reader;
        }

        boolean reads() {
            draft.clears();
            for (int i = 0; i <= LINES; i++) {
                if (reader.token == Reader.END) {
                    return true;
                }
                if (!line()) {
                    return false;
                }
            }
            return false;
        }

        private boolean line() {
            if (reader.token != Reader.WORD || reader.value > Law.WORD_FINE) {
                return reader.fails(1);
            }
            int i = draft.lines;
            if (i >= LINES) {
                return reader.fails(3);
            }
            draft.word[i] = reader.value;
            reader.advances();
            if (!sum()) {
                return false;
            }
            draft.whenAt[i] = draft.length;
            if (reader.isWord(WHEN)) {
                reader.advances();
                if (!condition(0)) {
                    return false;
                }
            }
            draft.endAt[i] = draft.length;
            draft.lines++;
            return reader.passesSign(';');
        }

        /** B, with its A's in the same loop: an and joins at once, an or only when no and follows. */
        private boolean condition(int open) {
            boolean andWaits = false;
            boolean orWaits = false;
            for (int i = 0; i < TAPE; i++) {
                if (!clause(open)) {
                    return false;
                }
                if (andWaits) {
                    draft.adds(Law.SIGN + '&');
                }
                andWaits = reader.isWord(AND);
                if (!andWaits) {
                    if (orWaits) {
                        draft.adds(Law.SIGN + '|');
                    }
                    orWaits = reader.isWord(OR);
                    if (!orWaits) {
                        return true;
                    }
                }
                reader.advances();
            }
            return reader.fails(1);
        }

        private boolean clause(int open) {
            if (reader.isWord(NOT) || reader.isSign('(')) {
                return open < OPEN_AT_MOST ? opened(open + 1) : reader.fails(3);
            }
            if (!sum()) {
                return false;
            }
            int sign = reader.value;
            if (!reader.isSign('<') && !reader.isSign('=') && !reader.isSign('>')) {
                return reader.fails(1);
            }
            reader.advances();
            if (!sum()) {
                return false;
            }
            draft.adds(Law.SIGN + sign);
            return true;
        }

        private boolean opened(int open) {
            boolean isNot = reader.isWord(NOT);
            reader.advances();
            if (!isNot) {
                return condition(open) && reader.passesSign(')');
            }
            if (!clause(open)) {
                return false;
            }
            /* A condition is 1 or 0, so that it is not so is that it is equal to 0. */
            draft.adds(0);
            draft.adds(Law.SIGN + '=');
            return true;
        }

        /** E, with its T's in the same loop: a * or / joins at once, a + or - only when neither follows. */
        private boolean sum() {
            int partSign = 0;
            int sumSign = 0;
            for (int i = 0; i < TAPE; i++) {
                int code = unit(partSign == '/');
                if (code == NONE) {
                    return false;
                }
                draft.adds(code);
                reader.advances();
                if (partSign != 0) {
                    draft.adds(Law.SIGN + partSign);
                }
                partSign = reader.isSign('*') || reader.isSign('/') ? reader.value : 0;
                if (partSign == 0) {
                    if (sumSign != 0) {
                        draft.adds(Law.SIGN + sumSign);
                    }
                    sumSign = reader.isSign('+') || reader.isSign('-') ? reader.value : 0;
                    if (sumSign == 0) {
                        return true;
                    }
                }
                reader.advances();
            }
            return reader.fails(1);
        }

        /** The code of the number or fact that stands here, NONE (and a fault) if there is none. */
        private int unit(boolean isDivisor) {
            if (reader.token == Reader.DIGITS) {
                if (isDivisor && reader.value == 0) {
                    reader.fails(2);
                    return NONE;
                }
                return reader.value;
            }
            if (!isDivisor && reader.token == Reader.WORD && reader.value >= FIRST_FACT) {
                return Law.FACT + reader.value - FIRST_FACT;
            }
            reader.fails(1);
            return NONE;
        }
    }

    /** Reads petitions, a lease or cites into a draft, so that a fault leaves what there was. */
    private static final class LineReader {
        static final int WORD_PERSON = 1;
        static final int WORD_KITE = 2;
        static final int WORD_BALL = 7;
        static final int WORD_AT = 8;
        static final int WORD_FOR = 9;

        final Reader reader;
        final Sheet draft = new Sheet(PETITION_WIDE);
        int filled;
        int latest;
        int people;
        int swallows;

        LineReader(Reader reader) {
            this.reader = reader;
        }

        boolean reads(int k, int peopleNow, int swallowsNow) {
            people = peopleNow;
            swallows = swallowsNow;
            draft.lines = 0;
            filled = 0;
            for (int i = 0; i <= LINES; i++) {
                if (reader.token == Reader.END) {
                    return true;
                }
                /* In each of these texts the word that opens a line is the first of its words. */
                if (i == LINES && reader.isWord(0)) {
                    return reader.fails(3);
                }
                if (!line(k)) {
                    return false;
                }
                draft.lines++;
            }
            return false;
        }

        private boolean line(int k) {
            if (!reader.passesWord(0)) {
                return false;
            }
            boolean read;
            switch (k) {
                case PETITIONS: read = petition(); break;
                case LEASE: read = turn(); break;
                default: read = precedent(); break;
            }
            return read && reader.passesSign(';');
        }

        private boolean petition() {
            return number(0, LAST_DAY) && reader.passesWord(WORD_PERSON) && number(0, people - 1)
                    && kind() && reader.passesWord(WORD_AT) && number(0, ROOFS - 1)
                    && number(0, HEIGHTS - 1) && number(latest, HEIGHTS - 1)
                    && reader.passesWord(WORD_FOR) && number(1, MOST_DAYS);
        }

        private boolean turn() {
            return number(0, ROOFS - 1) && reader.passesWord(1) && number(0, swallows - 1);
        }

        private boolean precedent() {
            return number(0, CASES - 1) && reader.passesWord(1) && unlike(latest) && number(0, CASES - 1);
        }

        private boolean unlike(int first) {
            return reader.token != Reader.DIGITS || reader.value != first || reader.fails(2);
        }

        private boolean number(int least, int most) {
            if (reader.token != Reader.DIGITS) {
                return reader.fails(1);
            }
            if (reader.value < least || reader.value > most) {
                return reader.fails(2);
            }
            latest = reader.value;
            fills(latest);
            reader.advances();
            return true;
        }

        private boolean kind() {
            if (reader.token != Reader.WORD || reader.value < WORD_KITE || reader.value > WORD_BALL) {
                return reader.fails(1);
            }
            fills(reader.value - WORD_KITE);
            reader.advances();
            return true;
        }

        private void fills(int v) {
            if (filled < draft.rows.length) {
                draft.rows[filled] = v;
                filled++;
            }
        }
    }

    /** Thought about the air, the roofs and the people as they are now. */
    private static final class AirThought {
        static final int CELLS = ROOFS * HEIGHTS;
        static final int MODULUS = 1000000007;
        /* What a heap of 0 .. 7 is worth where a move takes one or leaves the half: 2 and 6 lose like 0. */
        private static final int[] WORTHS = {0, 1, 0, 2, 1, 2, 0, 1};

        final World world;
        final int[] free = new int[ROOFS];
        final int[] steps = new int[CELLS];
        final int[] ways = new int[CELLS];
        final int[] queue = new int[CELLS];
        int queued;
        int foundSteps;
        int foundWays;
        int widest;
        int widestCell;

        AirThought(World world) {
            this.world = world;
        }

        private void learnsFree() {
            for (int r = 0; r < ROOFS; r++) {
                free[r] = (1 << HEIGHTS) - 1 & ~world.usedAbove(r);
            }
        }

        private boolean isFree(int roof, int height) {
            return within(roof, ROOFS - 1) && within(height, HEIGHTS - 1) && (free[roof] >> height & 1) == 1;
        }

        /** From a to b, nearer cells first, each with the number of shortest ways to it. */
        boolean walks(int a, int b) {
            learnsFree();
            if (!isFree(a / 10, a % 10) || !isFree(b / 10, b % 10)) {
                return false;
            }
            for (int i = 0; i < CELLS; i++) {
                steps[i] = NONE;
                ways[i] = 0;
            }
            int start = HEIGHTS * (a / 10) + a % 10;
            int goal = HEIGHTS * (b / 10) + b % 10;
            steps[start] = 0;
            ways[start] = 1;
            queue[0] = start;
            queued = 1;
            for (int i = 0; i < queued && i < CELLS; i++) {
                int roof = queue[i] / HEIGHTS;
                int height = queue[i] % HEIGHTS;
                reaches(queue[i], roof - 1, height);
                reaches(queue[i], roof + 1, height);
                reaches(queue[i], roof, height - 1);
                reaches(queue[i], roof, height + 1);
            }
            foundSteps = steps[goal];
            foundWays = ways[goal];
            return foundSteps != NONE;
        }

        private void reaches(int from, int roof, int height) {
            if (!isFree(roof, height)) {
                return;
            }
            int to = HEIGHTS * roof + height;
            if (steps[to] == NONE && queued < CELLS) {
                steps[to] = steps[from] + 1;
                queue[queued] = to;
                queued++;
            }
            if (steps[to] == steps[from] + 1) {
                ways[to] = (ways[to] + ways[from]) % MODULUS;
            }
        }

        /** The first largest rectangle: corners are gone through in the order in which ties are settled. */
        void widens() {
            learnsFree();
            widest = 0;
            widestCell = NONE;
            for (int roof = 0; roof < ROOFS; roof++) {
                for (int height = 0; height < HEIGHTS; height++) {
                    widensFrom(roof, height);
                }
            }
        }

        private void widensFrom(int roof, int height) {
            int tall = HEIGHTS;
            for (int last = roof; last < ROOFS && tall > 0; last++) {
                tall = Math.min(tall, runUp(last, height));
                int cells = tall * (last - roof + 1);
                if (cells > widest) {
                    widest = cells;
                    widestCell = 10 * roof + height;
                }
            }
        }

        private int runUp(int roof, int height) {
            int run = 0;
            for (int h = height; h < HEIGHTS && isFree(roof, h); h++) {
                run++;
            }
            return run;
        }

        int freeFromGround(int roof) {
            learnsFree();
            return runUp(roof, 0);
        }

        /** Who begins well leaves heaps whose worths cancel out: the first person for whom that can be done. */
        int gameMove(int what) {
            int all = 0;
            for (int p = 0; p < world.people; p++) {
                all ^= worth(stoopsOf(p));
            }
            for (int p = 0; p < world.people && all != 0; p++) {
                int stoops = stoopsOf(p);
                int wanted = all ^ worth(stoops);
                if (stoops > 0 && worth(stoops - 1) == wanted) {
                    return what == 0 ? p : 1;
                }
                if (stoops > 0 && worth(stoops / 2) == wanted) {
                    return what == 0 ? p : stoops - stoops / 2;
                }
            }
            return NONE;
        }

        private int stoopsOf(int person) {
            return world.persons[PERSON_WIDE * person + STOOPS];
        }

        private static int worth(int stoops) {
            return within(stoops, WORTHS.length - 1) ? WORTHS[stoops] : 0;
        }

        int leapWays(int n) {
            learnsFree();
            int before = 0;
            int twoBefore = 0;
            int last = 1;
            for (int roof = 1; roof <= n; roof++) {
                int here = isFree(roof, 0) ? last + before + twoBefore : 0;
                twoBefore = before;
                before = last;
                last = here;
            }
            return last;
        }
    }

    /** Thought about what was told: wishes, kites, ways, voices, points, and which case follows which. */
    private static final class ToldThought {
        final Told told;
        final Sheet cites;
        final int[] clashes = new int[WISHES];
        final int[] chain = new int[KITES];
        final int[] rest = new int[1 << EAVES];
        final int[] followers = new int[CASES];
        final int[] followed = new int[CASES];
        int foundSum;
        int foundSet;
        int foundCount;

        ToldThought(Told told, Sheet cites) {
            this.told = told;
            this.cites = cites;
        }

        /** Sets from the least up, so that of several as good the least stays. */
        void choosesWishes() {
            learnsClashes();
            foundSum = 0;
            foundSet = 0;
            for (int set = 1; set < 1 << told.wishes; set++) {
                int worth = worthOf(set);
                if (worth > foundSum) {
                    foundSum = worth;
                    foundSet = set;
                }
            }
        }

        private void learnsClashes() {
            for (int i = 0; i < told.wishes; i++) {
                clashes[i] = 0;
                for (int j = 0; j < told.wishes; j++) {
                    if (j != i && shareDay(WISH_WIDE * i, WISH_WIDE * j)) {
                        clashes[i] |= 1 << j;
                    }
                }
            }
        }

        private boolean shareDay(int one, int other) {
            int[] rows = told.wishRows;
            return rows[one] <= rows[other + 1] && rows[other] <= rows[one + 1];
        }

        private int worthOf(int set) {
            int worth = 0;
            for (int i = 0; i < told.wishes; i++) {
                if ((set >> i & 1) == 1) {
                    if ((clashes[i] & set) != 0) {
                        return NONE;
                    }
                    worth += told.wishRows[WISH_WIDE * i + 2];
                }
            }
            return worth;
        }

        int crossings() {
            int count = 0;
            for (int i = 0; i < told.kites; i++) {
                for (int j = 0; j < told.kites; j++) {
                    if (crosses(i, j)) {
                        count++;
                    }
                }
            }
            return count;
        }

        private boolean crosses(int one, int other) {
            int[] rows = told.kiteRows;
            return rows[KITE_WIDE * one] < rows[KITE_WIDE * other]
                    && rows[KITE_WIDE * one + 1] > rows[KITE_WIDE * other + 1];
        }

        /**
         * If one crosses another and that a third, the first crosses the third too: so the fewest layers
         * are as many as the kites of the longest chain of which each crosses the next.
         */
        int layers() {
            int longest = 0;
            for (int i = 0; i < told.kites; i++) {
                chain[i] = 1;
            }
            for (int round = 0; round < told.kites; round++) {
                for (int i = 0; i < told.kites; i++) {
                    lengthensChain(i);
                    longest = Math.max(longest, chain[i]);
                }
            }
            return longest;
        }

        private void lengthensChain(int i) {
            for (int j = 0; j < told.kites; j++) {
                if (crosses(j, i)) {
                    chain[i] = Math.max(chain[i], chain[j] + 1);
                }
            }
        }

        /** The least sum of all, and on the way for each set of taken eaves the least that the rest costs. */
        int leastWays() {
            int all = (1 << EAVES) - 1;
            rest[all] = 0;
            for (int taken = all - 1; taken >= 0; taken--) {
                int swallow = Integer.bitCount(taken);
                int least = EAVES * MOST_WAY;
                for (int eave = 0; eave < EAVES; eave++) {
                    if ((taken >> eave & 1) == 0) {
                        least = Math.min(least, costOf(swallow, eave, taken));
                    }
                }
                rest[taken] = least;
            }
            return rest[0];
        }

        private int costOf(int swallow, int eave, int taken) {
            int at = EAVES * swallow + eave;
            int then = taken | 1 << eave;
            boolean can = within(at, told.ways.length - 1) && within(then, rest.length - 1);
            return can ? told.ways[at] + rest[then] : EAVES * MOST_WAY;
        }

        /** Swallow by swallow the first eave that keeps to the least sum. */
        int eaveOf(int wanted) {
            leastWays();
            int taken = 0;
            int found = NONE;
            for (int swallow = 0; swallow <= wanted; swallow++) {
                found = NONE;
                for (int eave = 0; eave < EAVES && found == NONE; eave++) {
                    if ((taken >> eave & 1) == 0 && costOf(swallow, eave, taken) == rest[taken]) {
                        found = eave;
                    }
                }
                taken |= 1 << Math.max(0, found);
            }
            return found;
        }

        /** Sets from the least up, so that of several as small the least stays. */
        void choosesCallers() {
            int all = (1 << ROOFS) - 1;
            foundSum = ROOFS + 1;
            foundSet = all;
            for (int set = 1; set <= all; set++) {
                int callers = Integer.bitCount(set);
                if (callers < foundSum && reachedFrom(set) == all) {
                    foundSum = callers;
                    foundSet = set;
                }
            }
        }

        private int reachedFrom(int set) {
            int reached = 0;
            for (int r = 0; r < ROOFS; r++) {
                if ((set >> r & 1) == 1) {
                    reached |= told.voices[r];
                }
            }
            return reached;
        }

        void arbitrates() {
            foundSum = 0;
            foundCount = 0;
            for (int at = 0; at < POINT_WIDE * told.points; at += POINT_WIDE) {
                int one = told.pointRows[at];
                int other = told.pointRows[at + 1];
                int mark = told.pointRows[at + 2];
                boolean first = Math.abs(one - mark) <= Math.abs(other - mark);
                foundSum += told.pointRows[at + 3] * (first ? one : other);
                foundCount += first ? 1 : 0;
            }
        }

        private void learnsCites() {
            for (int n = 0; n < CASES; n++) {
                followers[n] = 0;
                followed[n] = 0;
            }
            for (int i = 0; i < cites.lines; i++) {
                int later = cites.rows[2 * i];
                int earlier = cites.rows[2 * i + 1];
                if (within(later, CASES - 1) && within(earlier, CASES - 1)) {
                    followers[earlier] |= 1 << later;
                    followed[later] |= 1 << earlier;
                }
            }
        }

        /** Each round goes a step further, and no case is more than all the others away. */
        int founds(int n) {
            learnsCites();
            int found = followers[n];
            for (int round = 0; round < CASES; round++) {
                for (int i = 0; i < CASES; i++) {
                    if ((found >> i & 1) == 1) {
                        found |= followers[i];
                    }
                }
            }
            return found;
        }

        /** The first order has at each place the least case that can stand there; a round leaves a place empty. */
        int placeOf(int n) {
            learnsCites();
            int placed = 0;
            int found = NONE;
            for (int place = 0; place < CASES; place++) {
                int next = leastReady(placed);
                if (next == NONE) {
                    return NONE;
                }
                if (next == n) {
                    found = place;
                }
                placed |= 1 << next;
            }
            return found;
        }

        private int leastReady(int placed) {
            for (int i = 0; i < CASES; i++) {
                if ((placed >> i & 1) == 0 && (followed[i] & ~placed) == 0) {
                    return i;
                }
            }
            return NONE;
        }
    }
}
