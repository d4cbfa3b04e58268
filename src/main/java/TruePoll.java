import java.util.Arrays;

/**
 * A poll that tells each person what it will show before it asks. README.md says how it is used;
 * the terms in capitals are those of the document.
 */
public final class TruePoll {
    public static final int NONE = -1;

    /** What many calls answer for what there is not, where NONE would be an answer. */
    private static final int OTHERS = -2;
    /** What `of` answers for what there is not, as sways goes down to -2. */
    private static final int NOBODY = -10;
    private static final int MOST_PEOPLE = 8;
    private static final int LAST_FIGURE = 8;
    private static final int LAST_LEAN = 9;
    private static final int LAST_SORT = 3;
    private static final int LAST_ROUND = 9999;
    private static final int LAST_SEED = 9999;
    private static final int LAST_DECIMAL = 999;
    private static final int MOST_ROUNDS = 60;
    private static final int MOST_YEARS = 40;
    private static final int MOST_SWAY = 2;
    private static final int MOST_STEPS = 30;
    private static final int MOST_WRITTEN = 30;
    private static final int MOST_TEXTS = 4;
    private static final int MOST_BYTES = 300;
    private static final int MOST_NUMBER = 9999;
    private static final int MOST_CLAUSES = 24;
    private static final int MOST_OPEN = 8;
    private static final int MOST_PARTIES = 8;
    private static final int MOST_SAID = 8;
    private static final int MOST_TURNS = 8;
    private static final int MOST_WHOLE = 99;
    private static final int MOST_YES = 99;
    private static final int VILLAGES = 10;
    private static final int ALL_ODDS = 10;
    private static final int FIRST_X = 449;

    private final Crowd crowd = new Crowd();
    private final Crowd kept = new Crowd();
    private final Moment trial = new Moment();
    private final Asker asker = new Asker(crowd);
    private final Rounds rounds = new Rounds(crowd, asker);
    private final Outlook outlook = new Outlook();
    private final Tape tape = new Tape();
    private final Reader reader = new Reader(tape);
    private final long[] ways = new long[MOST_PEOPLE + 1];
    private final int[] costs = new int[MOST_PEOPLE];
    private final int[] seen = new int[MOST_WHOLE];
    private int faultKind = NONE;
    private int faultPlace = NONE;

    public TruePoll() {
    }

    // ---- people, tape and texts

    public int person(int lean, int sort) {
        return crowd.addPerson(lean, sort);
    }

    public boolean hear(int a, int b) {
        return crowd.turnEar(a, b);
    }

    public int feed(int a, int b, int c, int d, int e) {
        if (tape.size + 20 > MOST_BYTES) {
            return NONE;
        }
        tape.addFour(a);
        tape.addFour(b);
        tape.addFour(c);
        tape.addFour(d);
        tape.addFour(e);
        return tape.size;
    }

    public int end(int n) {
        if (n < 0 || n > tape.size) {
            return NONE;
        }
        tape.size = n;
        return n;
    }

    public int text() {
        if (crowd.textCount >= MOST_TEXTS) {
            return NONE;
        }
        Text read = reader.readAll();
        tape.size = 0;
        faultKind = reader.fault;
        faultPlace = reader.place;
        return read == null ? NONE : crowd.addText(read);
    }

    public int fault(int what) {
        switch (what) {
            case 0: return faultKind;
            case 1: return faultPlace;
            default: return NONE;
        }
    }

    public boolean by(int text) {
        if (text != NONE && crowd.textAt(text) == null) {
            return false;
        }
        crowd.ruling = text;
        return true;
    }

    // ---- what is done

    public int tell(int figure) {
        return rounds.tellByHand(figure) ? crowd.now.figure : NONE;
    }

    public boolean nudge(int person, int by) {
        return rounds.nudgeByHand(person, by);
    }

    public int day(int n) {
        if (n < 1 || n > MOST_ROUNDS || crowd.now.round + n > LAST_ROUND) {
            return NONE;
        }
        rounds.passByHand(n);
        return crowd.now.figure;
    }

    public int played(int text) {
        Text script = crowd.textAt(text);
        if (script == null) {
            return OTHERS;
        }
        for (int i = 0; i < script.kinds.length; i++) {
            if (!rounds.playClause(script, i)) {
                return i;
            }
        }
        return NONE;
    }

    public int years(int seed, int n) {
        if (seed < 0 || seed > LAST_SEED || n < 1 || n > MOST_YEARS) {
            return NONE;
        }
        rounds.passYears(seed, n);
        return crowd.now.round;
    }

    public int undo() {
        return crowd.takeStepBack() ? crowd.steps : NONE;
    }

    // ---- what is so

    public int of(int person, int what) {
        Moment now = crowd.now;
        if (!now.hasPerson(person)) {
            return NOBODY;
        }
        switch (what) {
            case 0: return at(now.leans, person);
            case 1: return at(crowd.sorts, person);
            case 2: return at(crowd.hears, person);
            case 3: return now.answers >> person & 1;
            case 4: return asker.swayOf(now, person, now.figure, 1);
            case 5: return asker.swayOf(now, person, now.figure, 0);
            default: return NOBODY;
        }
    }

    public boolean says(int person, int figure) {
        return crowd.now.hasPerson(person) && figure >= 0 && figure <= LAST_FIGURE
            && asker.saysYes(crowd.now, crowd.rulingText(), person, figure);
    }

    public int is(int what) {
        Moment now = crowd.now;
        switch (what) {
            case 0: return now.round;
            case 1: return now.x;
            case 2: return now.figure;
            case 3: return now.answers;
            case 4: return now.allLeans();
            default: return OTHERS;
        }
    }

    public int book(int i, int what) {
        Moment now = crowd.now;
        if (i == NONE) {
            return now.written;
        }
        if (i < 0 || i >= now.written || what < 0 || what >= Moment.BOOK_ROW) {
            return OTHERS;
        }
        return now.bookAt(i, what);
    }

    // ---- what comes

    public int foretold(int n, int what) {
        if (n < 1 || n > MOST_ROUNDS || what < 0 || what > 1) {
            return NONE;
        }
        trial.copyFrom(crowd.now);
        rounds.passSome(trial, n);
        return what == 0 ? trial.figure : trial.answers;
    }

    public int comes(int figure) {
        return isFigure(figure) ? look().comesOf(figure) : NONE;
    }

    public int trues() {
        return look().trueBits();
    }

    public int firm() {
        return look().firmBits();
    }

    public int ends(int figure, boolean size) {
        if (!isFigure(figure)) {
            return NONE;
        }
        return size ? look().ringSize(figure) : look().ringLowest(figure);
    }

    public int till(int figure) {
        return isFigure(figure) ? look().tillRing(figure) : NONE;
    }

    public int leads(int figure) {
        return isFigure(figure) ? look().leadBits(figure) : NONE;
    }

    public int rings() {
        return look().ringCount();
    }

    public int nearest() {
        return look().nearestFigure();
    }

    public int path(int a, int b, int k) {
        if (!isFigure(a) || !isFigure(b) || k < 0 || k > LAST_FIGURE) {
            return NONE;
        }
        return look().fewestTellings(a, b, k);
    }

    // ---- whom to win, and who says what

    public int win(int figure, boolean many) {
        if (!isFigure(figure)) {
            return NONE;
        }
        int set = look().winners(figure);
        return set == NONE || !many ? set : Integer.bitCount(set);
    }

    public int two(int a, int b, int what) {
        if (!isFigure(a) || !isFigure(b)) {
            return NONE;
        }
        switch (what) {
            case 0: return look().yesOfTwo(a, b, false);
            case 1: return look().yesOfTwo(a, b, true);
            case 2: return look().trueSplits(a, b);
            default: return NONE;
        }
    }

    public int split(int a, int b) {
        return isFigure(a) && isFigure(b) ? look().lowestSplit(a, b) : NONE;
    }

    public int mind(int a, int b) {
        return isFigure(a) && isFigure(b) ? look().yesTold(a) ^ look().yesTold(b) : NONE;
    }

    public int unasked(boolean most) {
        return Integer.bitCount(most ? look().yesByAny() : look().yesByAll());
    }

    public int alike(int a, int b) {
        return crowd.now.hasPerson(a) && crowd.now.hasPerson(b) ? look().alikeFigures(a, b) : NONE;
    }

    public int pair(boolean second) {
        return look().mostAlike(second);
    }

    public int move(int person, int figure) {
        return crowd.now.hasPerson(person) && isFigure(figure) ? nearestLean(person, figure) : NONE;
    }

    public int cheapest(int figure) {
        return isFigure(figure) ? cheapestMoves(figure) : NONE;
    }

    public long sure(int k, int odds, boolean low) {
        if (k < 0 || k > LAST_FIGURE || odds < 0 || odds > ALL_ODDS) {
            return NONE;
        }
        return inLowestTerms(waysFor(k, odds), allWays(), low);
    }

    public long mean(int odds, boolean low) {
        if (odds < 0 || odds > ALL_ODDS) {
            return NONE;
        }
        int yes = Integer.bitCount(yesAsNow());
        int no = crowd.now.people - yes;
        return inLowestTerms((long) yes * (ALL_ODDS - odds) + (long) no * odds, ALL_ODDS, low);
    }

    // ---- who is heard

    public int reach(int person) {
        return crowd.now.hasPerson(person) ? crowd.heardBy(person) : NONE;
    }

    public int circles() {
        return crowd.circleCount();
    }

    public int loud() {
        return crowd.loudest();
    }

    public int part() {
        int best = 0;
        int mostUnlike = 0;
        for (int f = 0; f <= crowd.now.people; f++) {
            int unlike = unlikeCounts(f);
            if (unlike > mostUnlike) {
                mostUnlike = unlike;
                best = f;
            }
        }
        return best;
    }

    // ---- a game, parties, decimals, villages

    public int game(int n) {
        return n < 0 || n > MOST_TURNS ? NONE : look().gameEnd(crowd.now.figure, n);
    }

    public int choice(int n) {
        return n < 1 || n > MOST_TURNS ? NONE : look().gameStart(crowd.now.figure, n);
    }

    public int party(int low, int high) {
        if (low == NONE) {
            crowd.parties = 0;
            return 0;
        }
        return crowd.addParty(low, high) ? crowd.parties : OTHERS;
    }

    public int lives(int figure) {
        return figure < 0 || figure > LAST_FIGURE ? NONE : crowd.partiesBy(1 << figure);
    }

    public int most() {
        int best = 0;
        for (int f = 1; f <= LAST_FIGURE; f++) {
            if (crowd.partiesBy(1 << f) > crowd.partiesBy(1 << best)) {
                best = f;
            }
        }
        return best;
    }

    public int fewest(boolean many) {
        int best = (1 << LAST_FIGURE + 1) - 1;
        for (int set = best; set >= 0; set--) {
            if (crowd.partiesBy(set) == crowd.parties && Integer.bitCount(set) <= Integer.bitCount(best)) {
                best = set;
            }
        }
        return many ? Integer.bitCount(best) : best;
    }

    public int decimal(int part, int whole, int i) {
        if (!isPart(part, whole) || i < 0 || i > LAST_DECIMAL) {
            return NONE;
        }
        int rest = part;
        for (int j = 0; j < i; j++) {
            rest = rest * 10 % whole;
        }
        return rest * 10 / whole;
    }

    public int decimals(int part, int whole, boolean ring) {
        if (!isPart(part, whole)) {
            return NONE;
        }
        Arrays.fill(seen, NONE);
        int rest = part;
        // fewer rests than the whole can be unlike, so one comes again within so many
        for (int i = 0; i <= whole; i++) {
            int before = at(seen, rest);
            if (before != NONE) {
                return ring ? i - before : before;
            }
            put(seen, rest, i);
            rest = rest * 10 % whole;
        }
        return NONE;
    }

    public boolean village(int village, int yes) {
        if (village < 0 || village >= VILLAGES || yes < 0 || yes > MOST_YES) {
            return false;
        }
        put(crowd.villages, village, yes);
        return true;
    }

    public int window(int from, int many) {
        if (from < 0 || from >= VILLAGES || many < 0 || many > VILLAGES) {
            return NONE;
        }
        return crowd.villagesFrom(from, many);
    }

    public int busiest(int many) {
        if (many < 0 || many > VILLAGES) {
            return NONE;
        }
        int best = 0;
        for (int from = 1; from < VILLAGES; from++) {
            if (crowd.villagesFrom(from, many) > crowd.villagesFrom(best, many)) {
                best = from;
            }
        }
        return best;
    }

    // ---- whose law it was, the book

    public int said(int figure, int count) {
        if (figure == NONE) {
            crowd.saids = 0;
            return 0;
        }
        return crowd.addSaid(figure, count) ? crowd.saids : OTHERS;
    }

    public int whose() {
        int bits = 0;
        for (int t = 0; t < crowd.textCount; t++) {
            if (accountsForSaid(crowd.textAt(t))) {
                bits |= 1 << t;
            }
        }
        return bits;
    }

    public int honest() {
        Outlook seenNow = look();
        int everybody = (1 << crowd.now.people) - 1;
        return everybody & (seenNow.yesByAll() | ~seenNow.yesByAny());
    }

    public int changes() {
        Moment now = crowd.now;
        int count = 0;
        for (int i = 0; i < now.written; i++) {
            if (now.bookAt(i, Moment.BOOK_TOLD) != now.bookAt(i, Moment.BOOK_FIGURE)) {
                count++;
            }
        }
        return count;
    }

    public int ledger(int figure) {
        if (figure < 0 || figure > LAST_FIGURE) {
            return OTHERS;
        }
        Moment now = crowd.now;
        int count = 0;
        for (int i = 0; i < now.written; i++) {
            if (now.bookAt(i, Moment.BOOK_FIGURE) == figure) {
                count++;
            }
        }
        return count;
    }

    // ---- the image

    public int image() {
        kept.copyAll(crowd);
        return crowd.now.round;
    }

    public int back() {
        crowd.copyAll(kept);
        return crowd.now.round;
    }

    public int about(int what) {
        switch (what) {
            case 0: return crowd.now.people;
            case 1: return crowd.textCount;
            case 2: return crowd.ruling;
            case 3: return crowd.steps;
            case 4: return crowd.saids;
            case 5: return tape.size;
            default: return OTHERS;
        }
    }

    // ---- helpers

    /** Reads a row so that no index, whatever it is, can go beyond it. */
    private static int at(int[] row, int i) {
        return i >= 0 && i < row.length ? row[i] : 0;
    }

    /** Writes a row so that no index, whatever it is, can go beyond it. */
    private static void put(int[] row, int i, int value) {
        if (i >= 0 && i < row.length) {
            row[i] = value;
        }
    }

    private static long within(long value, long low, long high) {
        return Math.max(low, Math.min(high, value));
    }

    private boolean isFigure(int figure) {
        return figure >= 0 && figure <= crowd.now.people;
    }

    private static boolean isPart(int part, int whole) {
        return whole >= 1 && whole <= MOST_WHOLE && part >= 0 && part < whole;
    }

    /** What comes of each figure, all being as now. */
    private Outlook look() {
        Moment now = crowd.now;
        outlook.people = now.people;
        for (int f = 0; f <= now.people; f++) {
            put(outlook.yes, f, asker.yesBits(now, crowd.rulingText(), f));
        }
        return outlook;
    }

    private int yesAsNow() {
        return asker.yesBits(crowd.now, crowd.rulingText(), crowd.now.figure);
    }

    private int nearestLean(int person, int figure) {
        Text law = crowd.rulingText();
        boolean says = asker.saysYes(crowd.now, law, person, figure);
        int own = at(crowd.now.leans, person);
        int best = NONE;
        trial.copyFrom(crowd.now);
        for (int lean = LAST_LEAN; lean >= 0; lean--) {
            put(trial.leans, person, lean);
            boolean nearer = best == NONE || Math.abs(lean - own) <= Math.abs(best - own);
            if (nearer && asker.saysYes(trial, law, person, figure) != says) {
                best = lean;
            }
        }
        return best;
    }

    private int cheapestMoves(int figure) {
        int yes = look().yesTold(figure);
        int tooMany = Integer.bitCount(yes) - figure;
        int movers = tooMany > 0 ? yes : ~yes;
        int due = Math.abs(tooMany);
        if (due == 0) {
            return 0;
        }
        fillCosts(movers, figure);
        int cost = 0;
        for (int far = 1; far <= LAST_LEAN; far++) {
            for (int p = 0; p < crowd.now.people && due > 0; p++) {
                if (at(costs, p) == far) {
                    cost += far;
                    due--;
                }
            }
        }
        return due == 0 ? cost : NONE;
    }

    /** What each of a set costs to move; 0 for those who can't be moved and all others. */
    private void fillCosts(int set, int figure) {
        for (int p = 0; p < crowd.now.people; p++) {
            int lean = (set >> p & 1) == 1 ? nearestLean(p, figure) : NONE;
            put(costs, p, lean == NONE ? 0 : Math.abs(lean - at(crowd.now.leans, p)));
        }
    }

    /** Of all ways that odds of 10 can fall for everybody: those by which just k say yes. */
    private long waysFor(int k, int odds) {
        int yes = yesAsNow();
        Arrays.fill(ways, 0L);
        ways[0] = 1;
        for (int p = 0; p < crowd.now.people; p++) {
            int forYes = (yes >> p & 1) == 1 ? ALL_ODDS - odds : odds;
            for (int j = ways.length - 1; j > 0; j--) {
                ways[j] = ways[j] * (ALL_ODDS - forYes) + ways[j - 1] * forYes;
            }
            ways[0] = ways[0] * (ALL_ODDS - forYes);
        }
        return k >= 0 && k < ways.length ? ways[k] : 0;
    }

    private long allWays() {
        long all = 1;
        for (int p = 0; p < crowd.now.people; p++) {
            all *= ALL_ODDS;
        }
        return all;
    }

    private static long inLowestTerms(long upper, long lower, boolean low) {
        long common = lower;
        long rest = upper;
        // each two turns at least halve the rest, so 200 are more than any long needs
        for (int i = 0; i < 200 && rest != 0; i++) {
            long next = common % rest;
            common = rest;
            rest = next;
        }
        if (common == 0) {
            return NONE;
        }
        return (low ? lower : upper) / common;
    }

    /** By how many unlike numbers of yes the TEXTS answer a figure. */
    private int unlikeCounts(int figure) {
        int counts = 0;
        for (int t = 0; t < crowd.textCount; t++) {
            counts |= 1 << Integer.bitCount(asker.yesBits(crowd.now, crowd.textAt(t), figure));
        }
        return Integer.bitCount(counts);
    }

    private boolean accountsForSaid(Text law) {
        for (int i = 0; i < crowd.saids; i++) {
            int yes = asker.yesBits(crowd.now, law, at(crowd.saidFigures, i));
            if (Integer.bitCount(yes) != at(crowd.saidCounts, i)) {
                return false;
            }
        }
        return true;
    }

    /** What a STEP changes and takes back. */
    private static final class Moment {
        static final int BOOK_ROUND = 0;
        static final int BOOK_TOLD = 1;
        static final int BOOK_FIGURE = 2;
        static final int BOOK_ROW = 3;

        final int[] leans = new int[MOST_PEOPLE];
        final int[] lines = new int[MOST_WRITTEN * BOOK_ROW];
        int people;
        int answers;
        int figure;
        int round;
        int x = FIRST_X;
        int written;

        void copyFrom(Moment other) {
            System.arraycopy(other.leans, 0, leans, 0, leans.length);
            System.arraycopy(other.lines, 0, lines, 0, lines.length);
            people = other.people;
            answers = other.answers;
            figure = other.figure;
            round = other.round;
            x = other.x;
            written = other.written;
        }

        boolean hasPerson(int person) {
            return person >= 0 && person < people;
        }

        boolean canTell(int told) {
            return told >= 0 && told <= people && canPass();
        }

        boolean canPass() {
            return round < LAST_ROUND;
        }

        boolean canNudge(int person, int more) {
            if (!hasPerson(person) || more == 0 || more < -LAST_LEAN || more > LAST_LEAN) {
                return false;
            }
            int lean = at(leans, person) + more;
            return lean >= 0 && lean <= LAST_LEAN;
        }

        int allLeans() {
            int sum = 0;
            for (int p = 0; p < people; p++) {
                sum += at(leans, p);
            }
            return sum;
        }

        /** X as it is, X being anew behind it. */
        int drawX() {
            int before = x;
            x = (x * 709 + 577) % 31033;
            return before;
        }

        void writeDown(int told) {
            if (written >= MOST_WRITTEN) {
                System.arraycopy(lines, BOOK_ROW, lines, 0, lines.length - BOOK_ROW);
                written = MOST_WRITTEN - 1;
            }
            put(lines, written * BOOK_ROW + BOOK_ROUND, round);
            put(lines, written * BOOK_ROW + BOOK_TOLD, told);
            put(lines, written * BOOK_ROW + BOOK_FIGURE, figure);
            written++;
        }

        int bookAt(int i, int what) {
            return at(lines, i * BOOK_ROW + what);
        }
    }

    /** All that AN IMAGE holds. */
    private static final class Crowd {
        final Moment now = new Moment();
        final int[] sorts = new int[MOST_PEOPLE];
        final int[] toldLeans = new int[MOST_PEOPLE];
        final int[] hears = new int[MOST_PEOPLE];
        final Moment[] before = new Moment[MOST_STEPS];
        int firstStep;
        int steps;
        final Text[] texts = new Text[MOST_TEXTS];
        int textCount;
        int ruling = NONE;
        final int[] partyLows = new int[MOST_PARTIES];
        final int[] partyHighs = new int[MOST_PARTIES];
        int parties;
        final int[] saidFigures = new int[MOST_SAID];
        final int[] saidCounts = new int[MOST_SAID];
        int saids;
        final int[] villages = new int[VILLAGES];

        Crowd() {
            for (int i = 0; i < before.length; i++) {
                before[i] = new Moment();
            }
        }

        void copyAll(Crowd other) {
            now.copyFrom(other.now);
            for (int i = 0; i < before.length; i++) {
                copyStep(before[i], i < other.before.length ? other.before[i] : null);
            }
            firstStep = other.firstStep;
            steps = other.steps;
            copyPeople(other);
            // a TEXT is never changed once it is made, so both may hold the same one
            for (int t = 0; t < texts.length && t < other.texts.length; t++) {
                texts[t] = other.texts[t];
            }
            textCount = other.textCount;
            ruling = other.ruling;
            copyTold(other);
        }

        private static void copyStep(Moment to, Moment from) {
            if (to != null && from != null) {
                to.copyFrom(from);
            }
        }

        private void copyPeople(Crowd other) {
            System.arraycopy(other.sorts, 0, sorts, 0, sorts.length);
            System.arraycopy(other.toldLeans, 0, toldLeans, 0, toldLeans.length);
            System.arraycopy(other.hears, 0, hears, 0, hears.length);
        }

        private void copyTold(Crowd other) {
            System.arraycopy(other.partyLows, 0, partyLows, 0, partyLows.length);
            System.arraycopy(other.partyHighs, 0, partyHighs, 0, partyHighs.length);
            parties = other.parties;
            System.arraycopy(other.saidFigures, 0, saidFigures, 0, saidFigures.length);
            System.arraycopy(other.saidCounts, 0, saidCounts, 0, saidCounts.length);
            saids = other.saids;
            System.arraycopy(other.villages, 0, villages, 0, villages.length);
        }

        int addPerson(int lean, int sort) {
            int person = now.people;
            if (lean < 0 || lean > LAST_LEAN || sort < 0 || sort > LAST_SORT || person >= MOST_PEOPLE) {
                return NONE;
            }
            put(now.leans, person, lean);
            put(toldLeans, person, lean);
            put(sorts, person, sort);
            put(hears, person, 0);
            now.people = person + 1;
            return person;
        }

        boolean turnEar(int a, int b) {
            if (!now.hasPerson(a) || !now.hasPerson(b) || a == b) {
                return false;
            }
            put(hears, a, at(hears, a) ^ 1 << b);
            return true;
        }

        int addText(Text text) {
            if (textCount < 0 || textCount >= texts.length) {
                return NONE;
            }
            texts[textCount] = text;
            textCount++;
            return textCount - 1;
        }

        Text textAt(int i) {
            return i >= 0 && i < textCount && i < texts.length ? texts[i] : null;
        }

        /** THE TEXT; null without. */
        Text rulingText() {
            return textAt(ruling);
        }

        private Moment stepAt(int i) {
            int slot = (firstStep + i) % MOST_STEPS;
            return slot >= 0 && slot < before.length ? before[slot] : null;
        }

        /** All as it is ahead of a STEP can be come back to; the eldest of thirty gives way. */
        void keepStep() {
            copyStep(stepAt(steps), now);
            if (steps < MOST_STEPS) {
                steps++;
            } else {
                firstStep = (firstStep + 1) % MOST_STEPS;
            }
        }

        boolean takeStepBack() {
            Moment ahead = stepAt(steps - 1);
            if (steps <= 0 || ahead == null) {
                return false;
            }
            steps--;
            int people = now.people;
            now.copyFrom(ahead);
            for (int p = ahead.people; p < people; p++) {
                put(now.leans, p, at(toldLeans, p));
            }
            now.people = people;
            return true;
        }

        boolean addParty(int low, int high) {
            if (low < 0 || low > high || high > LAST_FIGURE || parties >= MOST_PARTIES) {
                return false;
            }
            put(partyLows, parties, low);
            put(partyHighs, parties, high);
            parties++;
            return true;
        }

        /** How many PARTIES live by one of the figures of a set at least. */
        int partiesBy(int set) {
            int count = 0;
            for (int i = 0; i < parties; i++) {
                int upTo = (1 << at(partyHighs, i) + 1) - 1;
                if ((set & upTo) >> at(partyLows, i) != 0) {
                    count++;
                }
            }
            return count;
        }

        boolean addSaid(int figure, int count) {
            if (figure < 0 || figure > LAST_FIGURE || count < 0 || count > LAST_FIGURE || saids >= MOST_SAID) {
                return false;
            }
            put(saidFigures, saids, figure);
            put(saidCounts, saids, count);
            saids++;
            return true;
        }

        int villagesFrom(int from, int many) {
            int sum = 0;
            for (int i = 0; i < many; i++) {
                sum += at(villages, (from + i) % VILLAGES);
            }
            return sum;
        }

        int heardBy(int person) {
            int set = at(hears, person);
            for (int turn = 0; turn < now.people; turn++) {
                for (int p = 0; p < now.people; p++) {
                    if ((set >> p & 1) == 1) {
                        set |= at(hears, p);
                    }
                }
            }
            return set;
        }

        int circleCount() {
            int count = 0;
            for (int p = 0; p < now.people; p++) {
                if (isLowestOfCircle(p)) {
                    count++;
                }
            }
            return count;
        }

        private boolean isLowestOfCircle(int person) {
            int heard = heardBy(person);
            for (int p = 0; p < person; p++) {
                if ((heard >> p & 1) == 1 && (heardBy(p) >> person & 1) == 1) {
                    return false;
                }
            }
            return true;
        }

        int loudest() {
            int best = NONE;
            int mostEars = 0;
            for (int p = 0; p < now.people; p++) {
                int ears = earsFor(p);
                if (ears > mostEars) {
                    mostEars = ears;
                    best = p;
                }
            }
            return best;
        }

        private int earsFor(int person) {
            int count = 0;
            for (int p = 0; p < now.people; p++) {
                count += at(hears, p) >> person & 1;
            }
            return count;
        }
    }

    /** How ROUNDS pass and LEANS are NUDGED. */
    private static final class Rounds {
        final Crowd crowd;
        final Asker asker;
        final int[] fresh = new int[MOST_PEOPLE];

        Rounds(Crowd crowd, Asker asker) {
            this.crowd = crowd;
            this.asker = asker;
        }

        /** A ROUND; the caller has seen that it can pass. */
        private void pass(Moment moment, int told) {
            Text law = crowd.rulingText();
            int answers = 0;
            for (int p = 0; p < moment.people; p++) {
                boolean yes = asker.saysYes(moment, law, p, told);
                boolean other = moment.drawX() % 20 == 0;
                if (yes != other) {
                    answers |= 1 << p;
                }
            }
            // everybody is swayed by what was ahead of the ROUND, so no LEAN may change till all are known
            for (int p = 0; p < moment.people; p++) {
                int sway = asker.swayOf(moment, p, told, answers >> p & 1);
                put(fresh, p, (int) within(at(moment.leans, p) + sway, 0, LAST_LEAN));
            }
            for (int p = 0; p < moment.people; p++) {
                put(moment.leans, p, at(fresh, p));
            }
            moment.answers = answers;
            moment.figure = Integer.bitCount(answers);
            moment.writeDown(told);
            moment.round++;
        }

        /** So many ROUNDS, each told the FIGURE as it is then, or those that can pass. */
        void passSome(Moment moment, int n) {
            for (int i = 0; i < n && moment.canPass(); i++) {
                pass(moment, moment.figure);
            }
        }

        /** As passSome, each a STEP; whether all have passed. */
        boolean passByHand(int n) {
            for (int i = 0; i < n; i++) {
                if (!crowd.now.canPass()) {
                    return false;
                }
                crowd.keepStep();
                pass(crowd.now, crowd.now.figure);
            }
            return true;
        }

        boolean tellByHand(int told) {
            if (!crowd.now.canTell(told)) {
                return false;
            }
            crowd.keepStep();
            pass(crowd.now, told);
            return true;
        }

        boolean nudgeByHand(int person, int more) {
            if (!crowd.now.canNudge(person, more)) {
                return false;
            }
            crowd.keepStep();
            shift(person, more);
            return true;
        }

        private void shift(int person, int more) {
            put(crowd.now.leans, person, at(crowd.now.leans, person) + more);
        }

        /** A CLAUSE of a script as by hand; whether it could be. */
        boolean playClause(Text script, int i) {
            int first = at(script.firsts, i);
            int second = at(script.seconds, i);
            switch (at(script.kinds, i)) {
                case Sign.PERSON: return crowd.addPerson(first, second) != NONE;
                case Sign.HEAR: return crowd.turnEar(first, second);
                case Sign.TELL: return tellByHand(first);
                case Sign.UP: return nudgeByHand(first, 1);
                case Sign.DOWN: return nudgeByHand(first, -1);
                case Sign.DAY: return passByHand(first);
                default: return true;
            }
        }

        void passYears(int seed, int n) {
            crowd.keepStep();
            crowd.now.x = seed * 2 + FIRST_X;
            for (int i = 0; i < n; i++) {
                passYear(crowd.now);
            }
        }

        private void passYear(Moment now) {
            int x = now.drawX();
            int kind = x % 6;
            int told = kind == 2 ? x / 6 % 9 : now.figure;
            if (kind < 2) {
                int person = x / 6 % 8;
                int more = kind == 0 ? 1 : -1;
                if (now.canNudge(person, more)) {
                    shift(person, more);
                }
            } else if ((kind > 2 || x % 4 == 2) && now.canTell(told)) {
                pass(now, told);
            }
        }
    }

    /** What comes of each figure that can be told, nobody drawing and nobody swaying. */
    private static final class Outlook {
        /** Of each figure: who says yes, told it. */
        final int[] yes = new int[LAST_FIGURE + 1];
        /** Of each figure in a GAME: the FIGURE at last, from it on. */
        final int[] lasts = new int[LAST_FIGURE + 1];
        final int[] fresh = new int[LAST_FIGURE + 1];
        int people;

        int yesTold(int figure) {
            return at(yes, figure);
        }

        int comesOf(int figure) {
            return Integer.bitCount(at(yes, figure));
        }

        int trueBits() {
            int bits = 0;
            for (int f = 0; f <= people; f++) {
                if (comesOf(f) == f) {
                    bits |= 1 << f;
                }
            }
            return bits;
        }

        int firmBits() {
            int bits = 0;
            for (int f = 0; f <= people; f++) {
                boolean below = f == 0 || comesOf(f - 1) == f;
                boolean above = f == people || comesOf(f + 1) == f;
                if (comesOf(f) == f && below && above) {
                    bits |= 1 << f;
                }
            }
            return bits;
        }

        /** The size of the ring that a figure is in; 0, if it is in none. */
        private int ringThrough(int figure) {
            int f = figure;
            for (int size = 1; size <= people + 1; size++) {
                f = comesOf(f);
                if (f == figure) {
                    return size;
                }
            }
            return 0;
        }

        int tillRing(int figure) {
            int f = figure;
            int till = 0;
            for (; till <= people && ringThrough(f) == 0; till++) {
                f = comesOf(f);
            }
            return till;
        }

        /** A figure of the ring where it ends. */
        private int someOfRing(int figure) {
            int f = figure;
            for (int i = 0; i <= people; i++) {
                f = comesOf(f);
            }
            return f;
        }

        int ringSize(int figure) {
            return ringThrough(someOfRing(figure));
        }

        int ringLowest(int figure) {
            int f = someOfRing(figure);
            int lowest = f;
            for (int i = 0; i <= people; i++) {
                f = comesOf(f);
                lowest = Math.min(lowest, f);
            }
            return lowest;
        }

        int leadBits(int figure) {
            int bits = 1 << figure;
            for (int turn = 0; turn <= people; turn++) {
                for (int f = 0; f <= people; f++) {
                    if ((bits >> comesOf(f) & 1) == 1) {
                        bits |= 1 << f;
                    }
                }
            }
            return bits;
        }

        int ringCount() {
            int count = 0;
            for (int f = 0; f <= people; f++) {
                if (ringThrough(f) > 0 && ringLowest(f) == f) {
                    count++;
                }
            }
            return count;
        }

        int nearestFigure() {
            int best = 0;
            for (int f = 1; f <= people; f++) {
                if (Math.abs(comesOf(f) - f) < Math.abs(comesOf(best) - best)) {
                    best = f;
                }
            }
            return best;
        }

        int fewestTellings(int a, int b, int k) {
            int come = 1 << a;
            for (int n = 0; n <= people + 1; n++) {
                if ((come >> b & 1) == 1) {
                    return n;
                }
                come |= comeFrom(come, k);
            }
            return NONE;
        }

        /** What comes of all figures that differ by k at most from one of a set. */
        private int comeFrom(int set, int k) {
            int bits = 0;
            for (int f = 0; f <= people; f++) {
                if ((set >> f & 1) == 1) {
                    for (int told = Math.max(0, f - k); told <= Math.min(people, f + k); told++) {
                        bits |= 1 << comesOf(told);
                    }
                }
            }
            return bits;
        }

        int winners(int figure) {
            int lacking = figure - comesOf(figure);
            if (lacking < 0) {
                return NONE;
            }
            int set = 0;
            for (int p = 0; p < people && lacking > 0; p++) {
                if ((yesTold(figure) >> p & 1) == 0) {
                    set |= 1 << p;
                    lacking--;
                }
            }
            return set;
        }

        /** How many say yes at most (else at fewest) by all ways to part PEOPLE. */
        int yesOfTwo(int a, int b, boolean atMost) {
            int either = yesTold(a) | yesTold(b);
            int both = yesTold(a) & yesTold(b);
            return Integer.bitCount(atMost ? either : both);
        }

        private boolean isTrueSplit(int set, int a, int b) {
            return Integer.bitCount(yesTold(a) & set) == a && Integer.bitCount(yesTold(b) & ~set) == b;
        }

        int trueSplits(int a, int b) {
            int count = 0;
            for (int set = 0; set < 1 << people; set++) {
                if (isTrueSplit(set, a, b)) {
                    count++;
                }
            }
            return count;
        }

        int lowestSplit(int a, int b) {
            for (int set = 0; set < 1 << people; set++) {
                if (isTrueSplit(set, a, b)) {
                    return set;
                }
            }
            return NONE;
        }

        int yesByAll() {
            int bits = yesTold(0);
            for (int f = 1; f <= people; f++) {
                bits &= yesTold(f);
            }
            return bits;
        }

        int yesByAny() {
            int bits = 0;
            for (int f = 0; f <= people; f++) {
                bits |= yesTold(f);
            }
            return bits;
        }

        int alikeFigures(int a, int b) {
            int count = 0;
            for (int f = 0; f <= people; f++) {
                if ((yesTold(f) >> a & 1) == (yesTold(f) >> b & 1)) {
                    count++;
                }
            }
            return count;
        }

        int mostAlike(boolean second) {
            int best = NONE;
            int one = NONE;
            int other = NONE;
            for (int a = 0; a < people; a++) {
                for (int b = a + 1; b < people; b++) {
                    int figures = alikeFigures(a, b);
                    if (figures > best) {
                        best = figures;
                        one = a;
                        other = b;
                    }
                }
            }
            return second ? other : one;
        }

        int gameEnd(int figure, int n) {
            playBackTo(0, n);
            return at(lasts, figure);
        }

        int gameStart(int figure, int n) {
            playBackTo(1, n);
            int best = bestLast(figure, true);
            for (int told = Math.max(0, figure - 1); told <= Math.min(people, figure + 1); told++) {
                if (at(lasts, comesOf(told)) == best) {
                    return told;
                }
            }
            return NONE;
        }

        /** Fills the lasts as they are ahead of a ROUND (from 0) of a GAME of n. */
        private void playBackTo(int round, int n) {
            for (int f = 0; f < lasts.length; f++) {
                lasts[f] = f;
            }
            for (int i = n - 1; i >= round; i--) {
                for (int f = 0; f <= people; f++) {
                    put(fresh, f, bestLast(f, i % 2 == 0));
                }
                System.arraycopy(fresh, 0, lasts, 0, lasts.length);
            }
        }

        private int bestLast(int figure, boolean much) {
            int best = at(lasts, comesOf(figure));
            for (int told = Math.max(0, figure - 1); told <= Math.min(people, figure + 1); told++) {
                int last = at(lasts, comesOf(told));
                best = much ? Math.max(best, last) : Math.min(best, last);
            }
            return best;
        }
    }

    /** What TOKENS can be, and what a law does with them. */
    private static final class Sign {
        /** Each word in WORDS has a cell of so many letters; its sign is the number of the cell. */
        static final int CELL = 6;
        static final String WORDS = "says  sways personsort  hear  from  tell  up    down  day   lean  said  if    then  else  end   or    and   not   round who   own   peopleheard figureyes   ";
        static final int SAYS = 0;
        static final int SWAYS = 1;
        static final int PERSON = 2;
        static final int SORT = 3;
        static final int HEAR = 4;
        static final int FROM = 5;
        static final int TELL = 6;
        static final int UP = 7;
        static final int DOWN = 8;
        static final int DAY = 9;
        static final int LEAN = 10;
        static final int SAID = 11;
        static final int IF = 12;
        static final int THEN = 13;
        static final int ELSE = 14;
        static final int END = 15;
        static final int OR = 16;
        static final int AND = 17;
        static final int NOT = 18;
        static final int ROUND = 19;
        static final int WHO = 20;
        static final int OWN = 21;
        static final int PEOPLE = 22;
        static final int HEARD = 23;
        static final int FIGURE = 24;
        static final int YES = 25;
        static final int LESS_OR_SAME = 26;
        static final int MORE_OR_SAME = 27;
        /** The marks of one byte; their signs follow from LESS on, in their order. */
        static final String MARKS = "<>=#+-*/();";
        static final int LESS = 28;
        static final int MORE = 29;
        static final int SAME = 30;
        static final int UNLIKE = 31;
        static final int PLUS = 32;
        static final int MINUS = 33;
        static final int TIMES = 34;
        static final int OVER = 35;
        static final int OPEN = 36;
        static final int CLOSE = 37;
        static final int STOP = 38;
        static final int NUMBER = 39;
        static final int FINISH = 40;
        static final int NO_TOKEN = 41;
        /** These three stand in laws alone. */
        static final int NEGATE = 42;
        static final int SKIP = 43;
        static final int SKIP_IF_NOT = 44;

        static boolean isComparing(int sign) {
            return sign >= LESS_OR_SAME && sign <= UNLIKE;
        }

        static boolean joinsTwo(int sign) {
            return sign >= LESS_OR_SAME && sign <= OVER || sign == OR || sign == AND;
        }

        static boolean changesOne(int sign) {
            return sign == LEAN || sign == SAID || sign == NOT || sign == NEGATE;
        }

        static boolean isName(int sign) {
            return sign >= ROUND && sign <= YES || sign == SORT;
        }

        static boolean beginsClause(int sign) {
            return sign >= SAYS && sign <= DAY && sign != SORT && sign != FROM;
        }

        /** Whether it stays open around what follows, where a ONE is due. */
        static boolean opensOne(int sign) {
            return sign == OPEN || sign == MINUS || sign == LEAN || sign == SAID || sign == IF;
        }
    }

    /** The tape, and the TOKENS that it is cut into. */
    private static final class Tape {
        final int[] bytes = new int[MOST_BYTES];
        int size;
        /** Of each TOKEN, and of the end behind them: what it is, where it begins, its number. */
        final int[] signs = new int[MOST_BYTES + 1];
        final int[] starts = new int[MOST_BYTES + 1];
        final int[] values = new int[MOST_BYTES + 1];
        private int next;
        private int value;

        void addFour(int word) {
            for (int shift = 24; shift >= 0; shift -= 8) {
                put(bytes, size, word >> shift & 255);
                size++;
            }
        }

        void cutTokens() {
            next = 0;
            skipBlanks();
            int count = 0;
            for (; count < MOST_BYTES && next < size; count++) {
                put(starts, count, next);
                value = 0;
                put(signs, count, readToken(at(bytes, next)));
                put(values, count, value);
                skipBlanks();
            }
            put(signs, count, Sign.FINISH);
            put(starts, count, size);
            put(values, count, 0);
        }

        private void skipBlanks() {
            while (next < size && isBlank(at(bytes, next))) {
                next++;
            }
        }

        /** Moves behind a TOKEN: what it is. */
        private int readToken(int first) {
            if (isLetter(first)) {
                return readWord();
            }
            if (isDigit(first)) {
                return readNumber();
            }
            return readMark((char) first);
        }

        private int readWord() {
            int start = next;
            while (next < size && isLetter(at(bytes, next))) {
                next++;
            }
            for (int word = Sign.SAYS; word <= Sign.YES && next - start <= Sign.CELL; word++) {
                if (isWord(start, word)) {
                    return word;
                }
            }
            return Sign.NO_TOKEN;
        }

        private boolean isWord(int start, int word) {
            for (int i = 0; i < Sign.CELL; i++) {
                int place = word * Sign.CELL + i;
                int due = place < Sign.WORDS.length() ? Sign.WORDS.charAt(place) : ' ';
                int letter = start + i < next ? at(bytes, start + i) : ' ';
                if (letter != due) {
                    return false;
                }
            }
            return true;
        }

        private int readNumber() {
            while (next < size && isDigit(at(bytes, next))) {
                // all above 9999 is the same FAULT, so one number stands for all of it
                value = Math.min(MOST_NUMBER + 1, value * 10 + at(bytes, next) - '0');
                next++;
            }
            return Sign.NUMBER;
        }

        private int readMark(char first) {
            next++;
            int mark = Sign.MARKS.indexOf(first);
            int sign = mark < 0 ? Sign.NO_TOKEN : Sign.LESS + mark;
            if (sign != Sign.LESS && sign != Sign.MORE || next >= size || at(bytes, next) != '=') {
                return sign;
            }
            next++;
            return sign == Sign.LESS ? Sign.LESS_OR_SAME : Sign.MORE_OR_SAME;
        }

        private static boolean isBlank(int b) {
            return b == 32 || b == 10;
        }

        private static boolean isLetter(int b) {
            return b >= 'a' && b <= 'z' || b >= 'A' && b <= 'Z';
        }

        private static boolean isDigit(int b) {
            return b >= '0' && b <= '9';
        }
    }

    /** A TEXT: its CLAUSES, and its laws as signs in the order in which they are asked. */
    private static final class Text {
        final int[] kinds;
        final int[] firsts;
        final int[] seconds;
        final int[] signs;
        final int[] mores;
        /** Where a law begins; NONE without it. */
        int saysFrom = NONE;
        int saysTo;
        int swaysFrom = NONE;
        int swaysTo;

        Text(int[] kinds, int[] firsts, int[] seconds, int[] signs, int[] mores) {
            this.kinds = kinds;
            this.firsts = firsts;
            this.seconds = seconds;
            this.signs = signs;
            this.mores = mores;
        }
    }

    /** Reads the tape as a TEXT. */
    private static final class Reader {
        static final int CANNOT_STAND = 1;
        static final int WRONG_NUMBER = 2;
        static final int TOO_DEEP = 3;
        static final int SECOND_LAW = 4;
        static final int WRONG_NAME = 5;
        static final int TOO_MANY = 6;

        private final Tape tape;
        private final int[] kinds = new int[MOST_CLAUSES];
        private final int[] firsts = new int[MOST_CLAUSES];
        private final int[] seconds = new int[MOST_CLAUSES];
        private final int[] signs = new int[MOST_BYTES];
        private final int[] mores = new int[MOST_BYTES];
        private int clauses;
        private int size;
        private int saysFrom;
        private int saysTo;
        private int swaysFrom;
        private int swaysTo;
        private int law;
        private int next;
        private int sign;
        private int value;
        int fault;
        int place;

        Reader(Tape tape) {
            this.tape = tape;
        }

        /** The TEXT; null, if it has a FAULT. */
        Text readAll() {
            clauses = 0;
            size = 0;
            saysFrom = NONE;
            swaysFrom = NONE;
            fault = 0;
            place = NONE;
            tape.cutTokens();
            next = NONE;
            advance();
            // the CLAUSE behind the last one that may be has a FAULT of its own
            for (int i = 0; i <= MOST_CLAUSES && fault == 0 && sign != Sign.FINISH; i++) {
                readClause();
            }
            return fault == 0 ? made() : null;
        }

        private Text made() {
            Text text = new Text(Arrays.copyOf(kinds, clauses), Arrays.copyOf(firsts, clauses),
                Arrays.copyOf(seconds, clauses), Arrays.copyOf(signs, size), Arrays.copyOf(mores, size));
            text.saysFrom = saysFrom;
            text.saysTo = saysTo;
            text.swaysFrom = swaysFrom;
            text.swaysTo = swaysTo;
            return text;
        }

        private void advance() {
            next++;
            sign = at(tape.signs, next);
            value = at(tape.values, next);
        }

        /** The first FAULT alone counts; all that reads stops by it. */
        private void fail(int kind) {
            if (fault == 0) {
                fault = kind;
                place = at(tape.starts, next);
            }
        }

        private void take(int due) {
            if (fault == 0 && sign == due) {
                advance();
            } else {
                fail(CANNOT_STAND);
            }
        }

        private void readClause() {
            int kind = sign;
            boolean second = kind == Sign.SAYS && saysFrom != NONE || kind == Sign.SWAYS && swaysFrom != NONE;
            if (!Sign.beginsClause(kind)) {
                fail(CANNOT_STAND);
            } else if (second) {
                fail(SECOND_LAW);
            } else if (clauses >= MOST_CLAUSES) {
                fail(TOO_MANY);
            } else {
                law = kind;
                put(kinds, clauses, kind);
                advance();
                readRest(kind);
                take(Sign.STOP);
                clauses++;
            }
        }

        private void readRest(int kind) {
            switch (kind) {
                case Sign.SAYS:
                    saysFrom = size;
                    readSum(0);
                    saysTo = size;
                    break;
                case Sign.SWAYS:
                    swaysFrom = size;
                    readSum(0);
                    swaysTo = size;
                    break;
                case Sign.PERSON:
                    readNumber(firsts, 0, LAST_LEAN);
                    take(Sign.SORT);
                    readNumber(seconds, 0, LAST_SORT);
                    break;
                case Sign.HEAR:
                    readNumber(firsts, 0, MOST_PEOPLE - 1);
                    take(Sign.FROM);
                    readNumber(seconds, 0, MOST_PEOPLE - 1);
                    break;
                case Sign.TELL:
                    readNumber(firsts, 0, LAST_FIGURE);
                    break;
                case Sign.DAY:
                    readNumber(firsts, 1, MOST_ROUNDS);
                    break;
                default:
                    readNumber(firsts, 0, MOST_PEOPLE - 1);
            }
        }

        private void readNumber(int[] row, int low, int high) {
            if (fault != 0) {
                return;
            }
            if (sign != Sign.NUMBER) {
                fail(CANNOT_STAND);
            } else if (value < low || value > high) {
                fail(WRONG_NUMBER);
            } else {
                put(row, clauses, value);
                advance();
            }
        }

        private void write(int what, int more) {
            put(signs, size, what);
            put(mores, size, more);
            size++;
        }

        private void readSum(int open) {
            readProduct(open);
            for (int i = 0; i < MOST_BYTES && fault == 0 && isAdding(); i++) {
                int joiner = sign;
                advance();
                readProduct(open);
                write(joiner, 0);
            }
        }

        private boolean isAdding() {
            return sign == Sign.PLUS || sign == Sign.MINUS;
        }

        private void readProduct(int open) {
            readOne(open);
            for (int i = 0; i < MOST_BYTES && fault == 0 && isMultiplying(); i++) {
                int joiner = sign;
                advance();
                readOne(open);
                write(joiner, 0);
            }
        }

        private boolean isMultiplying() {
            return sign == Sign.TIMES || sign == Sign.OVER;
        }

        /** A ONE, so many being open around it. */
        private void readOne(int open) {
            int opener = sign;
            if (fault != 0) {
                return;
            }
            if (!Sign.opensOne(opener)) {
                readPlain();
                return;
            }
            if (open >= MOST_OPEN) {
                fail(TOO_DEEP);
                return;
            }
            advance();
            if (opener == Sign.OPEN) {
                readSum(open + 1);
                take(Sign.CLOSE);
            } else if (opener == Sign.IF) {
                readIf(open + 1);
            } else {
                readOne(open + 1);
                write(opener == Sign.MINUS ? Sign.NEGATE : opener, 0);
            }
        }

        private void readPlain() {
            if (sign != Sign.NUMBER && !Sign.isName(sign)) {
                fail(CANNOT_STAND);
            } else if (value > MOST_NUMBER) {
                fail(WRONG_NUMBER);
            } else if (sign == Sign.YES && law != Sign.SWAYS) {
                fail(WRONG_NAME);
            } else {
                write(sign, value);
                advance();
            }
        }

        /** What follows an if; only the SUM that is chosen is asked, the other one is skipped. */
        private void readIf(int open) {
            readEither(open);
            take(Sign.THEN);
            int overFirst = size;
            write(Sign.SKIP_IF_NOT, 0);
            readSum(open);
            take(Sign.ELSE);
            int overSecond = size;
            write(Sign.SKIP, 0);
            put(mores, overFirst, size);
            readSum(open);
            put(mores, overSecond, size);
            take(Sign.END);
        }

        private void readEither(int open) {
            readBoth(open);
            for (int i = 0; i < MOST_BYTES && fault == 0 && sign == Sign.OR; i++) {
                advance();
                readBoth(open);
                write(Sign.OR, 0);
            }
        }

        private void readBoth(int open) {
            readAsk(open);
            for (int i = 0; i < MOST_BYTES && fault == 0 && sign == Sign.AND; i++) {
                advance();
                readAsk(open);
                write(Sign.AND, 0);
            }
        }

        private void readAsk(int open) {
            if (sign != Sign.NOT) {
                readComparison(open);
            } else if (open >= MOST_OPEN) {
                fail(TOO_DEEP);
            } else if (fault == 0) {
                advance();
                readAsk(open + 1);
                write(Sign.NOT, 0);
            }
        }

        private void readComparison(int open) {
            readSum(open);
            int comparer = sign;
            if (fault != 0 || !Sign.isComparing(comparer)) {
                fail(CANNOT_STAND);
                return;
            }
            advance();
            readSum(open);
            write(comparer, 0);
        }
    }

    /** Asks people by a law what they say and how they sway. */
    private static final class Asker {
        private static final long MOST_WORTH = 1000000;

        private final Crowd crowd;
        /** Five can wait at each of the eight that are open, and two around them. */
        private final int[] waiting = new int[64];
        private Moment moment;
        private int person;
        private int figure;
        private int yes;

        Asker(Crowd crowd) {
            this.crowd = crowd;
            this.moment = crowd.now;
        }

        /** Who says yes by a law (null: without), told a figure. */
        int yesBits(Moment asked, Text law, int told) {
            int bits = 0;
            for (int p = 0; p < asked.people; p++) {
                if (saysYes(asked, law, p, told)) {
                    bits |= 1 << p;
                }
            }
            return bits;
        }

        boolean saysYes(Moment asked, Text law, int who, int told) {
            moment = asked;
            person = who;
            figure = told;
            yes = 0;
            if (law == null || law.saysFrom == NONE) {
                return saysBySort();
            }
            return worth(law, law.saysFrom, law.saysTo) > 0;
        }

        private boolean saysBySort() {
            int lean = at(moment.leans, person);
            switch (at(crowd.sorts, person)) {
                case 0: return lean > 4;
                case 1: return figure * 2 >= moment.people;
                case 2: return figure * 2 < moment.people;
                default: return Math.abs(figure - lean) <= 2;
            }
        }

        int swayOf(Moment asked, int who, int told, int answer) {
            moment = asked;
            person = who;
            figure = told;
            yes = answer;
            Text law = crowd.rulingText();
            if (law == null || law.swaysFrom == NONE) {
                return 0;
            }
            return (int) within(worth(law, law.swaysFrom, law.swaysTo), -MOST_SWAY, MOST_SWAY);
        }

        private int worth(Text law, int from, int to) {
            int high = 0;
            int next = from;
            for (int i = 0; i < MOST_BYTES && next < to; i++) {
                int sign = at(law.signs, next);
                int more = at(law.mores, next);
                next++;
                if (sign == Sign.SKIP) {
                    next = more;
                } else if (sign == Sign.SKIP_IF_NOT) {
                    high--;
                    next = at(waiting, high) == 0 ? more : next;
                } else if (Sign.joinsTwo(sign)) {
                    high--;
                    long joined = joined(sign, at(waiting, high - 1), at(waiting, high));
                    put(waiting, high - 1, (int) within(joined, -MOST_WORTH, MOST_WORTH));
                } else if (Sign.changesOne(sign)) {
                    put(waiting, high - 1, changed(sign, at(waiting, high - 1)));
                } else {
                    put(waiting, high, sign == Sign.NUMBER ? more : named(sign));
                    high++;
                }
            }
            return at(waiting, 0);
        }

        private int named(int sign) {
            switch (sign) {
                case Sign.ROUND: return moment.round;
                case Sign.WHO: return person;
                case Sign.OWN: return at(moment.leans, person);
                case Sign.SORT: return at(crowd.sorts, person);
                case Sign.PEOPLE: return moment.people;
                case Sign.HEARD: return Integer.bitCount(at(crowd.hears, person) & moment.answers);
                case Sign.FIGURE: return figure;
                default: return yes;
            }
        }

        private int changed(int sign, int value) {
            boolean known = value >= 0 && value < moment.people;
            switch (sign) {
                case Sign.LEAN: return known ? at(moment.leans, value) : 0;
                case Sign.SAID: return known ? moment.answers >> value & 1 : 0;
                case Sign.NOT: return 1 - value;
                default: return -value;
            }
        }

        private static long joined(int sign, long a, long b) {
            switch (sign) {
                case Sign.PLUS: return a + b;
                case Sign.MINUS: return a - b;
                case Sign.TIMES: return a * b;
                case Sign.OVER: return b == 0 ? 0 : a / b;
                case Sign.AND: return Math.min(a, b);
                case Sign.OR: return Math.max(a, b);
                case Sign.LESS: return a < b ? 1 : 0;
                case Sign.LESS_OR_SAME: return a <= b ? 1 : 0;
                case Sign.MORE: return a > b ? 1 : 0;
                case Sign.MORE_OR_SAME: return a >= b ? 1 : 0;
                case Sign.SAME: return a == b ? 1 : 0;
                default: return a != b ? 1 : 0;
            }
        }
    }
}
