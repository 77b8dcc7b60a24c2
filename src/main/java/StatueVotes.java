/**
 * A capital whose statues stand on a term: plinths, statues and walkers are told in a text, years
 * pass, votes are held, and what would be so is tried without a change.
 *
 * All rows are made with the object and used again; no call makes anything.
 */
public final class StatueVotes {
    public static final int NONE = -1, UNKNOWN = -1000000001, OUTSIDE = -1000000002, NOT = -1000000003, FULL = -1000000004;

    private static final int MOST_LETTERS = 240;
    private static final int MOST_PLINTHS = 5;
    private static final int MOST_STATUES = 6;
    private static final int MOST_WALKERS = 7;
    private static final int MOST_YEARS_AT_ONCE = 60;
    private static final int LAST_YEAR = 9000;
    private static final int MOST_VOTERS = 60;
    private static final int HUNDRED = 100;
    private static final int BILLION = 1000000000;
    private static final int VIEW_ASKED = -2;

    private final Reader reader;
    private final City city;
    private final State now;
    private final State trial;
    private final Polls polls;
    private final Placer placer;
    private final Tally tally;
    private final Book book;
    private final Draws draws;
    private final History history;
    private final Image[] images;

    public StatueVotes() {
        City told = new City();
        State current = new State(told);
        reader = new Reader();
        city = told;
        now = current;
        trial = new State(told);
        polls = new Polls(told, current);
        placer = new Placer(told, current);
        tally = new Tally(told, current);
        book = new Book(current);
        draws = new Draws(told, current);
        history = new History(told);
        images = new Image[] {new Image(told), new Image(told)};
    }

    // ---- the capital

    public int feed(int letter) {
        if (letter < 0 || letter > 255) {
            return OUTSIDE;
        }
        return reader.append(letter) ? reader.length : FULL;
    }

    public int capital() {
        reader.readAll();
        if (reader.fault != 0) {
            return -10 - reader.fault;
        }
        city.copyFrom(reader.draft);
        now.begin();
        tally.clear();
        book.clear();
        history.clear();
        for (int i = 0; i < images.length; i++) {
            images[i].kept = false;
        }
        return city.plinths;
    }

    public int fault() {
        return reader.faultAt;
    }

    public int told(int what) {
        switch (what) {
            case 0: return city.term;
            case 1: return city.plinths;
            case 2: return city.statues;
            case 3: return city.walkers;
            case 4: return reader.length;
            case 5: return now.years;
            case 6: return now.standers();
            case 7: return now.emptyPlinths();
            case 8: return now.outvoted();
            case 9: return polls.beloved();
            case 10: return polls.rings();
            case 11: return tally.size;
            case 12: return book.size;
            case 13: return history.size;
            default: return OUTSIDE;
        }
    }

    public int plinth(int p, int what) {
        if (!city.hasPlinth(p)) {
            return UNKNOWN;
        }
        switch (what) {
            case 0: return city.views[p];
            case 1: return now.whoIsOn(p);
            case 2: return now.walkersUnder(p);
            case 3: return city.votesOf(now.walkersUnder(p));
            default: return OUTSIDE;
        }
    }

    public int statue(int s, int what) {
        if (!city.hasStatue(s)) {
            return UNKNOWN;
        }
        switch (what) {
            case 0: return city.kinds[s];
            case 1: return city.wants[s];
            case 2: return now.plinthOf[s];
            case 3: return now.tired[s];
            case 4: return now.elected[s];
            case 5: return now.margin(s);
            case 6: return now.walkersLiking(s);
            default: return OUTSIDE;
        }
    }

    public int walker(int w, int what) {
        if (!city.hasWalker(w)) {
            return UNKNOWN;
        }
        switch (what) {
            case 0: return now.ways[w];
            case 1: return city.votes[w];
            case 2: return now.likes[w];
            default: return OUTSIDE;
        }
    }

    // ---- what is done

    public int year(int n) {
        int refusal = refusalOfYears(n);
        if (refusal != 0) {
            return refusal;
        }
        history.push(now);
        for (int i = 0; i < n; i++) {
            now.passYear();
        }
        return now.standers();
    }

    public int stand(int s, int p) {
        if (!city.hasStatue(s) || !city.hasPlinth(p)) {
            return UNKNOWN;
        }
        if (!now.canStand(s, p)) {
            return NOT;
        }
        history.push(now);
        now.plinthOf[s] = p;
        return now.margin(s);
    }

    public int down(int s) {
        if (!city.hasStatue(s)) {
            return UNKNOWN;
        }
        if (!now.stands(s)) {
            return NOT;
        }
        history.push(now);
        int was = now.plinthOf[s];
        now.plinthOf[s] = NONE;
        return was;
    }

    public int scrub(int s) {
        if (!city.hasStatue(s)) {
            return UNKNOWN;
        }
        history.push(now);
        int was = now.tired[s];
        now.tired[s] = 0;
        return was;
    }

    public int walk(int w, int set) {
        if (!city.hasWalker(w) || !city.isSetOfPlinths(set)) {
            return UNKNOWN;
        }
        history.push(now);
        int was = now.ways[w];
        now.ways[w] = set;
        return was;
    }

    public int like(int w, int set) {
        if (!city.hasWalker(w) || !city.isSetOfStatues(set)) {
            return UNKNOWN;
        }
        history.push(now);
        int was = now.likes[w];
        now.likes[w] = set;
        return was;
    }

    public int drift(int n) {
        int refusal = refusalOfYears(n);
        if (refusal != 0) {
            return refusal;
        }
        history.push(now);
        for (int i = 0; i < n; i++) {
            draws.befall();
            now.passYear();
        }
        return now.standers();
    }

    public int undo() {
        if (history.size == 0) {
            return NOT;
        }
        history.popInto(now);
        return history.size;
    }

    // ---- tried

    public int standing(int s, int n) {
        if (!city.hasStatue(s)) {
            return UNKNOWN;
        }
        if (n < 0 || n > MOST_YEARS_AT_ONCE) {
            return OUTSIDE;
        }
        trial.copyFrom(now);
        for (int i = 0; i < n; i++) {
            trial.passYear();
        }
        return trial.plinthOf[s];
    }

    public int goesDown(int s) {
        if (!city.hasStatue(s)) {
            return UNKNOWN;
        }
        trial.copyFrom(now);
        for (int passed = 0; passed <= HUNDRED; passed++) {
            if (!trial.stands(s)) {
                return passed;
            }
            trial.passYear();
        }
        return NONE;
    }

    public int change(int s, int what) {
        if (!city.hasStatue(s)) {
            return UNKNOWN;
        }
        if (what < 0 || what > 1) {
            return OUTSIDE;
        }
        if (!now.stands(s)) {
            return NOT;
        }
        return polls.fewestChanges(s, what == 0);
    }

    public int power(int w, int p, int what) {
        if (!city.hasWalker(w) || !city.hasPlinth(p)) {
            return UNKNOWN;
        }
        if (what < 0 || what > 1) {
            return OUTSIDE;
        }
        return polls.weight(w, p, what == 0);
    }

    public int mostHave(int s, int q) {
        if (!city.hasStatue(s) || !city.hasStatue(q) || s == q) {
            return UNKNOWN;
        }
        return polls.isHadAgainst(s, q) ? 1 : 0;
    }

    public int places(int s) {
        if (s != NONE && s != VIEW_ASKED && !city.hasStatue(s)) {
            return UNKNOWN;
        }
        placer.placeAll();
        if (s == NONE) {
            return placer.placed();
        }
        if (s == VIEW_ASKED) {
            return placer.viewTogether();
        }
        return placer.chosen[s];
    }

    public int swaps(int i) {
        if (i < NONE) {
            return NONE;
        }
        return i == NONE ? placer.howManySwaps() : placer.nthSwap(i);
    }

    public int close(int n, int q) {
        if (n < 0 || n > MOST_VOTERS || q < 0 || q > HUNDRED) {
            return OUTSIDE;
        }
        long odds = BILLION;
        for (int i = 0; i < n; i++) {
            odds = odds * q / HUNDRED;
        }
        return (int) odds;
    }

    // ---- what is counted

    public int count(int p, int v) {
        if (!city.hasPlinth(p)) {
            return UNKNOWN;
        }
        if (v < 0 || v > 99) {
            return OUTSIDE;
        }
        return tally.add(p, v) ? tally.size : FULL;
    }

    public int likings(int what) {
        if (what < 0 || what > 1) {
            return OUTSIDE;
        }
        tally.fitAll();
        return what == 0 ? tally.fitting : tally.inEach();
    }

    public int ladder() {
        tally.fitAll();
        return tally.bestPlinth();
    }

    public int write(int s, int p) {
        if (!city.hasStatue(s) || p != NONE && !city.hasPlinth(p)) {
            return UNKNOWN;
        }
        return book.add(s, p) ? book.size : FULL;
    }

    public int tear() {
        int both = tally.size + book.size;
        tally.clear();
        book.clear();
        return both;
    }

    public int judge() {
        return book.firstWrong();
    }

    // ---- draws, images

    public int seed(int v) {
        if (v < 0) {
            return OUTSIDE;
        }
        int was = draws.state;
        draws.state = v;
        return was;
    }

    public int keep(int i) {
        if (i < 0 || i >= images.length) {
            return UNKNOWN;
        }
        images[i].state.copyFrom(now);
        images[i].drawn = draws.state;
        images[i].kept = true;
        history.clear();
        return 1;
    }

    public int goBack(int i) {
        if (i < 0 || i >= images.length) {
            return UNKNOWN;
        }
        if (!images[i].kept) {
            return NOT;
        }
        now.copyFrom(images[i].state);
        draws.state = images[i].drawn;
        history.clear();
        return 1;
    }

    /** Years by draws are refused as years are; 0: not at all. */
    private int refusalOfYears(int n) {
        if (n < 1 || n > MOST_YEARS_AT_ONCE) {
            return OUTSIDE;
        }
        if (city.term == 0) {
            return NOT;
        }
        return now.years > LAST_YEAR ? FULL : 0;
    }

    private static boolean isIn(int set, int k) {
        return (set >> k & 1) == 1;
    }

    /** What a text tells; it stays so until another text is taken. A term of 0: no capital. */
    private static final class City {
        int term;
        int plinths;
        int statues;
        int walkers;
        final int[] views = new int[MOST_PLINTHS];
        final int[] kinds = new int[MOST_STATUES];
        final int[] wants = new int[MOST_STATUES];
        final int[] plinthsAtFirst = new int[MOST_STATUES];
        final int[] votes = new int[MOST_WALKERS];
        final int[] waysAtFirst = new int[MOST_WALKERS];
        final int[] likesAtFirst = new int[MOST_WALKERS];

        void clear() {
            term = 0;
            plinths = 0;
            statues = 0;
            walkers = 0;
        }

        void copyFrom(City other) {
            term = other.term;
            plinths = other.plinths;
            statues = other.statues;
            walkers = other.walkers;
            System.arraycopy(other.views, 0, views, 0, MOST_PLINTHS);
            System.arraycopy(other.kinds, 0, kinds, 0, MOST_STATUES);
            System.arraycopy(other.wants, 0, wants, 0, MOST_STATUES);
            System.arraycopy(other.plinthsAtFirst, 0, plinthsAtFirst, 0, MOST_STATUES);
            System.arraycopy(other.votes, 0, votes, 0, MOST_WALKERS);
            System.arraycopy(other.waysAtFirst, 0, waysAtFirst, 0, MOST_WALKERS);
            System.arraycopy(other.likesAtFirst, 0, likesAtFirst, 0, MOST_WALKERS);
        }

        void addPlinth(int view) {
            if (plinths < MOST_PLINTHS) {
                views[plinths] = view;
                plinths++;
            }
        }

        void addStatue(int kind, int plinth, int want) {
            if (statues < MOST_STATUES) {
                kinds[statues] = kind;
                plinthsAtFirst[statues] = plinth;
                wants[statues] = want;
                statues++;
            }
        }

        void addWalker(int ways, int vote, int likes) {
            if (walkers < MOST_WALKERS) {
                waysAtFirst[walkers] = ways;
                votes[walkers] = vote;
                likesAtFirst[walkers] = likes;
                walkers++;
            }
        }

        boolean isTakenAtFirst(int p) {
            for (int s = 0; s < statues; s++) {
                if (plinthsAtFirst[s] == p) {
                    return true;
                }
            }
            return false;
        }

        boolean hasPlinth(int p) {
            return p >= 0 && p < plinths;
        }

        boolean hasStatue(int s) {
            return s >= 0 && s < statues;
        }

        boolean hasWalker(int w) {
            return w >= 0 && w < walkers;
        }

        boolean isSetOfPlinths(int set) {
            return set >= 0 && set < 1 << plinths;
        }

        boolean isSetOfStatues(int set) {
            return set >= 0 && set < 1 << statues;
        }

        int setsOfWalkers() {
            return 1 << walkers;
        }

        /** Whether a statue has the view that it wants on a plinth. */
        boolean pleases(int p, int s) {
            return hasPlinth(p) && hasStatue(s) && views[p] >= wants[s];
        }

        int votesOf(int setOfWalkers) {
            int sum = 0;
            for (int w = 0; w < walkers; w++) {
                if (isIn(setOfWalkers, w)) {
                    sum += votes[w];
                }
            }
            return sum;
        }
    }

    /** Takes the letters and reads them into a draft, so that a fault leaves the capital alone. */
    private static final class Reader {
        private static final int CANNOT_STAND = 1;
        private static final int BAD_NUMBER = 2;
        private static final int ONE_TOO_MANY = 3;
        private static final int TAKEN = 4;
        private static final int BLANK = 32;
        private static final int END = -1;
        private static final int MOST_FIGURES = 3;
        private static final int ON_NONE = 9;

        private final int[] letters = new int[MOST_LETTERS];
        private int at;
        int length;
        int fault;
        int faultAt = NONE;
        final City draft = new City();

        boolean append(int letter) {
            if (length >= MOST_LETTERS) {
                return false;
            }
            letters[length] = letter;
            length++;
            return true;
        }

        void readAll() {
            draft.clear();
            at = 0;
            fault = 0;
            faultAt = NONE;
            skipBlanks();
            for (int clause = 0; clause < MOST_LETTERS && fault == 0 && at < length; clause++) {
                readClause();
                skipBlanks();
            }
            length = 0;
        }

        private int letter() {
            return at >= 0 && at < length && at < MOST_LETTERS ? letters[at] : END;
        }

        private static boolean isFigure(int letter) {
            return letter >= '0' && letter <= '9';
        }

        private void skipBlanks() {
            while (at < length && letters[at] == BLANK) {
                at++;
            }
        }

        /** The first fault stays: what is read behind it is not told any more. */
        private void blame(int number, int where) {
            if (fault == 0) {
                fault = number;
                faultAt = where;
            }
        }

        private void readClause() {
            int word = letter();
            int wrong = faultOfWord(word);
            if (wrong != 0) {
                blame(wrong, at);
                return;
            }
            at++;
            switch (word) {
                case 't': readTerm(); break;
                case 'p': readPlinth(); break;
                case 's': readStatue(); break;
                default: readWalker(); break;
            }
        }

        private int faultOfWord(int word) {
            boolean isFirst = draft.term == 0;
            boolean isBehindWalkers = draft.walkers > 0;
            switch (word) {
                case 't':
                    return isFirst ? 0 : ONE_TOO_MANY;
                case 'p':
                    return isFirst || isBehindWalkers ? CANNOT_STAND : draft.plinths < MOST_PLINTHS ? 0 : ONE_TOO_MANY;
                case 's':
                    return isFirst || isBehindWalkers ? CANNOT_STAND : draft.statues < MOST_STATUES ? 0 : ONE_TOO_MANY;
                case 'w':
                    return isFirst ? CANNOT_STAND : draft.walkers < MOST_WALKERS ? 0 : ONE_TOO_MANY;
                default:
                    return CANNOT_STAND;
            }
        }

        private void readTerm() {
            int term = readNumber(1, 9);
            readSemicolon();
            if (fault == 0) {
                draft.term = term;
            }
        }

        private void readPlinth() {
            int view = readNumber(0, 99);
            readSemicolon();
            if (fault == 0) {
                draft.addPlinth(view);
            }
        }

        private void readStatue() {
            int kind = readNumber(0, 3);
            int place = readPlace();
            int want = readNumber(0, 99);
            readSemicolon();
            if (fault == 0) {
                draft.addStatue(kind, place, want);
            }
        }

        private void readWalker() {
            int ways = readNumber(0, (1 << draft.plinths) - 1);
            int votes = readNumber(1, 9);
            int likes = readNumber(0, (1 << draft.statues) - 1);
            readSemicolon();
            if (fault == 0) {
                draft.addWalker(ways, votes, likes);
            }
        }

        private int readPlace() {
            skipBlanks();
            int start = at;
            int place = readNumber(0, ON_NONE);
            if (place == ON_NONE) {
                return NONE;
            }
            if (!draft.hasPlinth(place)) {
                blame(BAD_NUMBER, start);
            } else if (draft.isTakenAtFirst(place)) {
                blame(TAKEN, start);
            }
            return place;
        }

        private int readNumber(int least, int most) {
            skipBlanks();
            int start = at;
            int value = 0;
            while (at < length && isFigure(letter())) {
                if (at - start < MOST_FIGURES) {
                    value = value * 10 + letter() - '0';
                }
                at++;
            }
            if (at == start) {
                blame(CANNOT_STAND, start);
            } else if (at - start > MOST_FIGURES || value < least || value > most) {
                blame(BAD_NUMBER, start);
            }
            return value;
        }

        private void readSemicolon() {
            skipBlanks();
            if (letter() == ';') {
                at++;
            } else {
                blame(CANNOT_STAND, at);
            }
        }
    }

    /** All that years and calls change: who stands, how tired all are, and the walkers' ways. */
    private static final class State {
        private static final int MOST_TIRED = 99;
        private static final int TOO_TIRED = 30;
        private static final int REST = 5;
        private static final int EVEN = 1000;

        private final City city;
        int years;
        final int[] plinthOf = new int[MOST_STATUES];
        final int[] tired = new int[MOST_STATUES];
        final int[] elected = new int[MOST_STATUES];
        final int[] ways = new int[MOST_WALKERS];
        final int[] likes = new int[MOST_WALKERS];

        State(City city) {
            this.city = city;
        }

        void begin() {
            years = 0;
            for (int s = 0; s < MOST_STATUES; s++) {
                plinthOf[s] = city.plinthsAtFirst[s];
                tired[s] = 0;
                elected[s] = 0;
            }
            for (int w = 0; w < MOST_WALKERS; w++) {
                ways[w] = city.waysAtFirst[w];
                likes[w] = city.likesAtFirst[w];
            }
        }

        void copyFrom(State other) {
            years = other.years;
            System.arraycopy(other.plinthOf, 0, plinthOf, 0, MOST_STATUES);
            System.arraycopy(other.tired, 0, tired, 0, MOST_STATUES);
            System.arraycopy(other.elected, 0, elected, 0, MOST_STATUES);
            System.arraycopy(other.ways, 0, ways, 0, MOST_WALKERS);
            System.arraycopy(other.likes, 0, likes, 0, MOST_WALKERS);
        }

        boolean stands(int s) {
            return city.hasStatue(s) && city.hasPlinth(plinthOf[s]);
        }

        /** Whether a statue is on that plinth, or, for NONE, on none. */
        boolean isOn(int s, int p) {
            return city.hasStatue(s) && plinthOf[s] == p;
        }

        boolean canStand(int s, int p) {
            return city.hasStatue(s) && city.hasPlinth(p) && !stands(s) && whoIsOn(p) == NONE;
        }

        int whoIsOn(int p) {
            for (int s = 0; s < city.statues; s++) {
                if (plinthOf[s] == p) {
                    return s;
                }
            }
            return NONE;
        }

        int standers() {
            int set = 0;
            for (int s = 0; s < city.statues; s++) {
                if (stands(s)) {
                    set |= 1 << s;
                }
            }
            return set;
        }

        int emptyPlinths() {
            int set = 0;
            for (int p = 0; p < city.plinths; p++) {
                if (whoIsOn(p) == NONE) {
                    set |= 1 << p;
                }
            }
            return set;
        }

        int walkersUnder(int p) {
            int set = 0;
            for (int w = 0; w < city.walkers; w++) {
                if (isIn(ways[w], p)) {
                    set |= 1 << w;
                }
            }
            return set;
        }

        int walkersLiking(int s) {
            int set = 0;
            for (int w = 0; w < city.walkers; w++) {
                if (isIn(likes[w], s)) {
                    set |= 1 << w;
                }
            }
            return set;
        }

        /** Votes for a statue less those against it, if just these walk under it. */
        int lead(int s, int under) {
            int friends = walkersLiking(s);
            return city.votesOf(under & friends) - city.votesOf(under & ~friends);
        }

        int margin(int s) {
            return stands(s) ? EVEN + lead(s, walkersUnder(plinthOf[s])) : NONE;
        }

        /** Who stands and would not stay. */
        int outvoted() {
            int set = 0;
            for (int s = 0; s < city.statues; s++) {
                if (stands(s) && lead(s, walkersUnder(plinthOf[s])) < 0) {
                    set |= 1 << s;
                }
            }
            return set;
        }

        void passYear() {
            for (int s = 0; s < city.statues; s++) {
                tired[s] = Math.max(0, Math.min(MOST_TIRED, tired[s] + strain(s)));
            }
            for (int s = 0; s < city.statues; s++) {
                if (tired[s] >= TOO_TIRED) {
                    plinthOf[s] = NONE;
                }
            }
            years++;
            if (city.term > 0 && years % city.term == 0) {
                holdElection();
            }
        }

        /** By how much a year tires a statue; below 0, as it rests. */
        private int strain(int s) {
            if (!stands(s)) {
                return -REST;
            }
            switch (city.kinds[s]) {
                case 0: return 3;
                case 1: return 1;
                case 2: return city.pleases(plinthOf[s], s) ? 2 : 4;
                default: return 0;
            }
        }

        private void holdElection() {
            int leaving = outvoted();
            for (int s = 0; s < city.statues; s++) {
                if (isIn(leaving, s)) {
                    plinthOf[s] = NONE;
                } else if (stands(s)) {
                    elected[s]++;
                }
            }
        }
    }

    /** What votes would do: whose ways to change, what a vote weighs, whom most would have. */
    private static final class Polls {
        private static final int[] ORDERS = {1, 1, 2, 6, 24, 120, 720, 5040};

        private final City city;
        private final State now;

        Polls(City city, State now) {
            this.city = city;
            this.now = now;
        }

        /** The least of the smallest sets of walkers by whose change the statue stays, or does not. */
        int fewestChanges(int s, boolean toStay) {
            if (!now.stands(s)) {
                return NONE;
            }
            int under = now.walkersUnder(now.plinthOf[s]);
            int best = NONE;
            for (int set = 0; set < city.setsOfWalkers(); set++) {
                boolean isFewer = best == NONE || Integer.bitCount(set) < Integer.bitCount(best);
                if (isFewer && now.lead(s, under ^ set) >= 0 == toStay) {
                    best = set;
                }
            }
            return best;
        }

        /** In how many orders, or else sets of others, this walker's votes first make enough. */
        int weight(int w, int p, boolean byOrders) {
            int under = now.walkersUnder(p);
            if (!isIn(under, w)) {
                return 0;
            }
            int others = under & ~(1 << w);
            int enough = (city.votesOf(under) + 1) / 2;
            int sum = 0;
            for (int set = 0; set < city.setsOfWalkers(); set++) {
                if ((set & ~others) == 0 && city.votesOf(set) < enough && city.votesOf(set | 1 << w) >= enough) {
                    sum += byOrders ? ordersAround(Integer.bitCount(set), Integer.bitCount(others & ~set)) : 1;
                }
            }
            return sum;
        }

        private int ordersAround(int ahead, int behind) {
            boolean areKnown = ahead >= 0 && ahead < ORDERS.length && behind >= 0 && behind < ORDERS.length;
            return areKnown ? ORDERS[ahead] * ORDERS[behind] : 0;
        }

        boolean isHadAgainst(int s, int q) {
            int likeOne = now.walkersLiking(s);
            int likeOther = now.walkersLiking(q);
            return city.votesOf(likeOne & ~likeOther) > city.votesOf(likeOther & ~likeOne);
        }

        int beloved() {
            for (int s = 0; s < city.statues; s++) {
                if (isHadAgainstAll(s)) {
                    return s;
                }
            }
            return NONE;
        }

        private boolean isHadAgainstAll(int s) {
            for (int q = 0; q < city.statues; q++) {
                if (q != s && !isHadAgainst(s, q)) {
                    return false;
                }
            }
            return true;
        }

        int rings() {
            int sum = 0;
            for (int a = 0; a < city.statues; a++) {
                for (int b = a + 1; b < city.statues; b++) {
                    for (int c = b + 1; c < city.statues; c++) {
                        if (goesRound(a, b, c) || goesRound(a, c, b)) {
                            sum++;
                        }
                    }
                }
            }
            return sum;
        }

        private boolean goesRound(int a, int b, int c) {
            return isHadAgainst(a, b) && isHadAgainst(b, c) && isHadAgainst(c, a);
        }
    }

    /** Statues to plinths by the views that they want; pairs that would do well to swap. */
    private static final class Placer {
        /** Above all views together, so that one statue more outweighs any view. */
        private static final int ONE_STATUE = 1000;
        private static final int SETS = 1 << MOST_PLINTHS;
        private static final int PAIR = 100;

        private final City city;
        private final State now;
        /** Row s, column set: the best worth of statues from s on, if these plinths are free. */
        private final int[][] worth = new int[MOST_STATUES + 1][SETS];
        final int[] chosen = new int[MOST_STATUES];

        Placer(City city, State now) {
            this.city = city;
            this.now = now;
        }

        void placeAll() {
            for (int free = 0; free < SETS; free++) {
                worth[city.statues][free] = 0;
            }
            for (int s = city.statues - 1; s >= 0; s--) {
                for (int free = 0; free < SETS; free++) {
                    worth[s][free] = bestWorth(s, free);
                }
            }
            int free = (1 << city.plinths) - 1;
            for (int s = 0; s < city.statues; s++) {
                chosen[s] = firstBest(s, free);
                free = without(free, chosen[s]);
            }
        }

        int placed() {
            return bestOfAll() / ONE_STATUE;
        }

        int viewTogether() {
            return bestOfAll() % ONE_STATUE;
        }

        private int bestOfAll() {
            return worth[0][(1 << city.plinths) - 1];
        }

        private int bestWorth(int s, int free) {
            int best = worth[s + 1][free];
            for (int p = 0; p < city.plinths; p++) {
                if (canHave(s, p, free)) {
                    best = Math.max(best, worthOn(s, p, free));
                }
            }
            return best;
        }

        /** Of plinths that are as good as any, the least; none comes last. */
        private int firstBest(int s, int free) {
            for (int p = 0; p < city.plinths; p++) {
                if (canHave(s, p, free) && worthOn(s, p, free) == worth[s][free]) {
                    return p;
                }
            }
            return NONE;
        }

        private boolean canHave(int s, int p, int free) {
            return isIn(free, p) && city.pleases(p, s);
        }

        private int worthOn(int s, int p, int free) {
            return ONE_STATUE + city.views[p] + worth[s + 1][without(free, p)];
        }

        private static int without(int set, int p) {
            return p == NONE ? set : set & ~(1 << p);
        }

        int howManySwaps() {
            int sum = 0;
            for (int s = 0; s < city.statues; s++) {
                for (int q = s + 1; q < city.statues; q++) {
                    if (wouldSwap(s, q)) {
                        sum++;
                    }
                }
            }
            return sum;
        }

        int nthSwap(int n) {
            int ahead = 0;
            for (int s = 0; s < city.statues; s++) {
                for (int q = s + 1; q < city.statues; q++) {
                    if (wouldSwap(s, q)) {
                        if (ahead == n) {
                            return PAIR * s + q;
                        }
                        ahead++;
                    }
                }
            }
            return NONE;
        }

        private boolean wouldSwap(int s, int q) {
            if (!now.stands(s) || !now.stands(q)) {
                return false;
            }
            int own = now.plinthOf[s];
            int others = now.plinthOf[q];
            boolean bothWould = city.pleases(others, s) && city.pleases(own, q);
            return bothWould && !(city.pleases(own, s) && city.pleases(others, q));
        }
    }

    /** Counts of votes for one unknown statue, and by whom it may be liked after these. */
    private static final class Tally {
        private static final int MOST_COUNTS = 6;
        private static final int SETS = 1 << MOST_WALKERS;
        /** One more than the votes that seven walkers of nine votes have together. */
        private static final int SUMS = 9 * MOST_WALKERS + 1;

        private final City city;
        private final State now;
        private final int[] plinths = new int[MOST_COUNTS];
        private final int[] votes = new int[MOST_COUNTS];
        private final boolean[] fits = new boolean[SETS];
        private final int[] parts = new int[SUMS];
        int size;
        int fitting;

        Tally(City city, State now) {
            this.city = city;
            this.now = now;
        }

        void clear() {
            size = 0;
        }

        boolean add(int p, int v) {
            if (size >= MOST_COUNTS) {
                return false;
            }
            plinths[size] = p;
            votes[size] = v;
            size++;
            return true;
        }

        /** Walkers may have gone other ways since the last time, so all is fitted anew. */
        void fitAll() {
            int sets = city.setsOfWalkers();
            for (int set = 0; set < SETS; set++) {
                fits[set] = set < sets;
            }
            for (int i = 0; i < size; i++) {
                int under = now.walkersUnder(plinths[i]);
                for (int set = 0; set < sets; set++) {
                    fits[set] = fits[set] && city.votesOf(set & under) == votes[i];
                }
            }
            fitting = 0;
            for (int set = 0; set < sets; set++) {
                if (fits[set]) {
                    fitting++;
                }
            }
        }

        int inEach() {
            int sets = city.setsOfWalkers();
            int common = sets - 1;
            for (int set = 0; set < sets; set++) {
                if (fits[set]) {
                    common &= set;
                }
            }
            return fitting == 0 ? NONE : common;
        }

        /** A plinth parts what fits only if not all that fits is alike there. */
        int bestPlinth() {
            int best = NONE;
            int least = fitting;
            for (int p = 0; p < city.plinths; p++) {
                int greatest = greatestPart(p);
                if (greatest < least) {
                    least = greatest;
                    best = p;
                }
            }
            return best;
        }

        private int greatestPart(int p) {
            for (int sum = 0; sum < SUMS; sum++) {
                parts[sum] = 0;
            }
            int under = now.walkersUnder(p);
            int greatest = 0;
            for (int set = 0; set < city.setsOfWalkers(); set++) {
                int sum = city.votesOf(set & under);
                if (fits[set] && sum >= 0 && sum < SUMS) {
                    parts[sum]++;
                    greatest = Math.max(greatest, parts[sum]);
                }
            }
            return greatest;
        }
    }

    /** Entries that tell where statues stand, to be judged against where they do. */
    private static final class Book {
        private static final int MOST_ENTRIES = 15;

        private final State now;
        private final int[] statues = new int[MOST_ENTRIES];
        private final int[] plinths = new int[MOST_ENTRIES];
        int size;

        Book(State now) {
            this.now = now;
        }

        void clear() {
            size = 0;
        }

        boolean add(int s, int p) {
            if (size >= MOST_ENTRIES) {
                return false;
            }
            statues[size] = s;
            plinths[size] = p;
            size++;
            return true;
        }

        int firstWrong() {
            for (int i = 0; i < size; i++) {
                if (!now.isOn(statues[i], plinths[i])) {
                    return i;
                }
            }
            return NONE;
        }
    }

    /** The seed, and what its draws bring about ahead of a year. */
    private static final class Draws {
        private final City city;
        private final State now;
        int state;

        Draws(City city, State now) {
            this.city = city;
            this.now = now;
        }

        private int draw(int n) {
            state = (int) ((state * 1103515245L + 12345L) & 0x7fffffffL);
            return n > 0 ? state / 65536 % n : 0;
        }

        void befall() {
            switch (draw(4)) {
                case 0: turnWalker(); break;
                case 1: raiseStatue(); break;
                case 2: washStatue(); break;
                default: break;
            }
        }

        private void turnWalker() {
            if (city.walkers > 0 && city.plinths > 0) {
                int w = draw(city.walkers);
                int p = draw(city.plinths);
                if (city.hasWalker(w)) {
                    now.ways[w] ^= 1 << p;
                }
            }
        }

        private void raiseStatue() {
            if (city.statues > 0 && city.plinths > 0) {
                int s = draw(city.statues);
                int p = draw(city.plinths);
                if (now.canStand(s, p)) {
                    now.plinthOf[s] = p;
                }
            }
        }

        private void washStatue() {
            if (city.statues > 0) {
                int s = draw(city.statues);
                if (city.hasStatue(s)) {
                    now.tired[s] = 0;
                }
            }
        }
    }

    /** The latest states that can be gone back to, in a ring that forgets the oldest. */
    private static final class History {
        private static final int MOST_KEPT = 16;

        private final State[] ring = new State[MOST_KEPT];
        private int next;
        int size;

        History(City city) {
            for (int i = 0; i < MOST_KEPT; i++) {
                ring[i] = new State(city);
            }
        }

        void clear() {
            size = 0;
        }

        void push(State state) {
            ring[next].copyFrom(state);
            next = (next + 1) % MOST_KEPT;
            size = Math.min(size + 1, MOST_KEPT);
        }

        void popInto(State state) {
            if (size > 0) {
                next = (next + MOST_KEPT - 1) % MOST_KEPT;
                state.copyFrom(ring[next]);
                size--;
            }
        }
    }

    /** A state that is kept together with the seed. */
    private static final class Image {
        final State state;
        int drawn;
        boolean kept;

        Image(City city) {
            state = new State(city);
        }
    }
}
