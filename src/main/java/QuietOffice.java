import java.util.Arrays;

/** An office that insures against quiet: a policy pays when for so many days nothing befell a life. */
public final class QuietOffice {
    public static final int NONE = -1, UNKNOWN = -1000000001, OUTSIDE = -1000000002, NOT = -1000000003, FULL = -1000000004;

    private static final int BILLION = 1000000000;
    private static final int MOST_LETTERS = 250, MOST_LIVES = 4, MOST_POLICIES = 6;
    private static final int KINDS = 4, ALL_KINDS = 15, MOST_HABIT = 2;
    private static final int MOST_DAYS_OF_QUIET = 30, MOST_FUNDS = 999999, MOST_SUM = 999;
    private static final int MOST_DAYS_A_CALL = 99, LAST_DAY = 90000;
    private static final int MOST_UNDONE = 30, IMAGES = 2;
    private static final int MOST_WITNESSES = 8, ALL_SEEN_DAYS = 65535, MOST_LEDGER = 3, MOST_BOOK = 20;

    private final Reader reader = new Reader();
    private final Law law = new Law();
    private final State state = new State();
    private final Past past = new Past();
    private final Odds odds = new Odds();
    private final Trial trial = new Trial();
    private final Seen seen = new Seen();
    private final LedgerSearch search = new LedgerSearch();
    private int theSeed = 0;
    private final State[] images = new State[IMAGES];
    private final int[] imageSeeds = new int[IMAGES];
    private int keptImages = 0;

    public QuietOffice() {
    }

    // ---- the office

    public int feed(int letter) {
        if (isOutside(letter, 0, 255)) {
            return OUTSIDE;
        }
        return reader.addLetter(letter);
    }

    public int office() {
        int number = reader.readText();
        if (number != Reader.NO_FAULT) {
            return -10 - number;
        }
        law.copyFrom(reader.law);
        state.begin(law);
        seen.clear();
        past.forget();
        keptImages = 0;
        return law.policies;
    }

    public int fault() {
        return reader.faultPlace;
    }

    public int told(int what) {
        switch (what) {
            case 0: return law.lives;
            case 1: return law.policies;
            case 2: return reader.letters;
            case 3: return state.dayNumber;
            case 4: return state.funds;
            case 5: return state.paidSum;
            case 6: return state.dueSum;
            case 7: return state.ruinDay;
            case 8: return state.lapsedSet;
            case 9: return seen.witnesses;
            case 10: return seen.ledgerLines;
            case 11: return seen.bookLines;
            case 12: return past.count;
            default: return OUTSIDE;
        }
    }

    public int life(int l, int what) {
        if (!isLife(l)) {
            return UNKNOWN;
        }
        if (isOutside(what, 0, 5)) {
            return OUTSIDE;
        }
        if (what == 5) {
            return setOf(state.toldEvents, l);
        }
        return what == 4 ? state.habits[l] : law.oddsOf(l, what, state.habits[l]);
    }

    public int policy(int p, int what) {
        if (!isPolicy(p)) {
            return UNKNOWN;
        }
        switch (what) {
            case 0: return law.lifeOf[p];
            case 1: return law.kindsOf[p];
            case 2: return law.daysOf[p];
            case 3: return law.amountOf[p];
            case 4: return law.premiumOf[p];
            case 5: return state.quiet[p];
            default: return OUTSIDE;
        }
    }

    // ---- days

    public int event(int l, int set) {
        if (!isLife(l)) {
            return UNKNOWN;
        }
        if (isOutside(set, 0, ALL_KINDS)) {
            return OUTSIDE;
        }
        int was = setOf(state.toldEvents, l);
        state.toldEvents = state.toldEvents ^ onLife(l, was) ^ onLife(l, set);
        return was;
    }

    public int day(int n) {
        return passDays(n, false);
    }

    public int drift(int n) {
        return passDays(n, true);
    }

    public int fund(int n) {
        if (isOutside(n, 0, MOST_SUM)) {
            return OUTSIDE;
        }
        state.addFunds(n);
        return state.funds;
    }

    public int habit(int l, int h) {
        if (!isLife(l)) {
            return UNKNOWN;
        }
        if (isOutside(h, 0, MOST_HABIT)) {
            return OUTSIDE;
        }
        int was = state.habits[l];
        state.habits[l] = h;
        return was;
    }

    public int lapse(int p, boolean is) {
        if (!isPolicy(p)) {
            return UNKNOWN;
        }
        boolean was = state.hasLapsed(p);
        if (was != is) {
            state.lapsedSet ^= 1 << p;
        }
        return was ? 1 : 0;
    }

    public int undo(int n) {
        if (isOutside(n, 1, MOST_UNDONE)) {
            return OUTSIDE;
        }
        if (n > past.count) {
            return NOT;
        }
        past.takeBack(n, state);
        return state.dayNumber;
    }

    // ---- odds

    public int calm(int p, int n) {
        if (!isPolicy(p)) {
            return UNKNOWN;
        }
        if (isOutside(n, 0, MOST_DAYS_A_CALL)) {
            return OUTSIDE;
        }
        return Odds.calmOf(law, state, p, n);
    }

    public int fair(int p) {
        return isPolicy(p) ? Odds.fairPremium(law, state, p) : UNKNOWN;
    }

    public int pays(int p, int n) {
        if (!isPolicy(p)) {
            return UNKNOWN;
        }
        if (isOutside(n, 1, 60)) {
            return OUTSIDE;
        }
        return state.hasLapsed(p) ? NOT : odds.paidWithin(law, state, p, n);
    }

    // ---- tried

    public int soonest() {
        return trial.daysToRuin(law, state);
    }

    public int needs(int n) {
        return isOutside(n, 1, MOST_DAYS_A_CALL) ? OUTSIDE : Trial.fundsNeeded(law, state, n);
    }

    public int keepWhich(int n, int what) {
        if (isOutside(n, 1, 60) || isOutside(what, 0, 1)) {
            return OUTSIDE;
        }
        int best = Trial.bestToKeep(law, state, n);
        return what == 0 ? Trial.premiumsOf(law, best) : best;
    }

    public int choose(int l) {
        return isLife(l) ? Odds.bestHabit(law, state, l) : UNKNOWN;
    }

    public int fires(int l, int kind, int n, int what) {
        if (!isLife(l)) {
            return UNKNOWN;
        }
        if (isOutside(kind, 0, KINDS - 1) || isOutside(n, 1, MOST_DAYS_A_CALL) || isOutside(what, 0, 1)) {
            return OUTSIDE;
        }
        int first = Trial.firstPayment(law, state, l, kind);
        if (first > n) {
            return what == 0 ? 0 : NONE;
        }
        return what == 0 ? Trial.firesFrom(law, state, l, kind, first, n) : first;
    }

    public int struck(int kind, int what) {
        if (isOutside(kind, 0, KINDS - 1) || isOutside(what, 0, 2)) {
            return OUTSIDE;
        }
        if (what == 2) {
            return Odds.leftWithoutKind(law, state, kind);
        }
        int calmest = Odds.calmestWithout(law, state, kind);
        if (calmest == NONE || what == 1) {
            return calmest;
        }
        return Odds.calmWithout(law, state, calmest, kind);
    }

    // ---- what was seen

    public int witness(int days) {
        if (isOutside(days, 0, ALL_SEEN_DAYS)) {
            return OUTSIDE;
        }
        return seen.addWitness(days);
    }

    public int fewest(int days, int what) {
        if (isOutside(days, 0, ALL_SEEN_DAYS) || isOutside(what, 0, 1)) {
            return OUTSIDE;
        }
        int which = seen.fewestFor(days);
        return which == NONE || what == 1 ? which : Integer.bitCount(which);
    }

    public int ledger(int funds) {
        if (isOutside(funds, 0, MOST_FUNDS)) {
            return OUTSIDE;
        }
        return seen.addToLedger(funds);
    }

    public int befell(int l, int i) {
        if (!isLife(l)) {
            return UNKNOWN;
        }
        search.run(law, state, seen, l);
        if (i == NONE) {
            return search.rowsThatFit;
        }
        if (search.firstRow == NONE || isOutside(i, 0, seen.ledgerLines - 1)) {
            return NONE;
        }
        return LedgerSearch.setIn(search.firstRow, i, seen.ledgerLines);
    }

    public int sure(int l) {
        if (!isLife(l)) {
            return UNKNOWN;
        }
        search.run(law, state, seen, l);
        return search.sureKinds;
    }

    public int write(int funds) {
        if (isOutside(funds, 0, MOST_FUNDS)) {
            return OUTSIDE;
        }
        return seen.addToBook(funds);
    }

    public int judge() {
        return trial.firstWrong(law, state, seen);
    }

    public int tear() {
        int all = seen.witnesses + seen.ledgerLines + seen.bookLines;
        seen.clear();
        return all;
    }

    // ---- images

    public int seed(int v) {
        if (v < 0) {
            return OUTSIDE;
        }
        int was = theSeed;
        theSeed = v;
        return was;
    }

    public int keep(int i) {
        if (isOutside(i, 0, IMAGES - 1)) {
            return UNKNOWN;
        }
        if (images[i] == null) {
            images[i] = new State();
        }
        images[i].copyFrom(state);
        imageSeeds[i] = theSeed;
        keptImages |= 1 << i;
        past.forget();
        return 1;
    }

    public int goBack(int i) {
        if (isOutside(i, 0, IMAGES - 1)) {
            return UNKNOWN;
        }
        if ((keptImages >> i & 1) == 0 || images[i] == null) {
            return NOT;
        }
        state.copyFrom(images[i]);
        theSeed = imageSeeds[i];
        past.forget();
        return 1;
    }

    private static boolean isOutside(int n, int least, int most) {
        return n < least || n > most;
    }

    private boolean isLife(int l) {
        return l >= 0 && l < law.lives;
    }

    private boolean isPolicy(int p) {
        return p >= 0 && p < law.policies;
    }

    /** Events of all LIVES stand in one number, four bits for each, so that a day has them at one glance. */
    private static int onLife(int l, int set) {
        return set << (KINDS * l);
    }

    private static int setOf(int events, int l) {
        return (events >> (KINDS * l)) & ALL_KINDS;
    }

    private int passDays(int n, boolean byDraws) {
        if (isOutside(n, 1, MOST_DAYS_A_CALL)) {
            return OUTSIDE;
        }
        if (state.dayNumber > LAST_DAY) {
            return FULL;
        }
        for (int i = 0; i < n; i++) {
            past.remember(state);
            int events = state.toldEvents | (byDraws ? drawnEvents() : 0);
            state.toldEvents = 0;
            state.passDay(law, events);
        }
        return state.funds;
    }

    private int drawnEvents() {
        int events = 0;
        for (int l = 0; l < law.lives; l++) {
            for (int k = 0; k < KINDS; k++) {
                if (drawOfThousand() < law.oddsOf(l, k, state.habits[l])) {
                    events |= onLife(l, 1 << k);
                }
            }
        }
        return events;
    }

    private int drawOfThousand() {
        theSeed = (int) ((theSeed * 1103515245L + 12345L) & 0x7fffffffL);
        return theSeed / 65536 % 1000;
    }

    /** What the text told, and no day changes. */
    private static final class Law {
        int funds = 0;
        int lives = 0;
        int policies = 0;
        final int[] chances = new int[MOST_LIVES * KINDS];
        final int[] habits = new int[MOST_LIVES];
        final int[] lifeOf = new int[MOST_POLICIES];
        final int[] kindsOf = new int[MOST_POLICIES];
        final int[] daysOf = new int[MOST_POLICIES];
        final int[] amountOf = new int[MOST_POLICIES];
        final int[] premiumOf = new int[MOST_POLICIES];

        void clear() {
            funds = 0;
            lives = 0;
            policies = 0;
        }

        void copyFrom(Law other) {
            funds = other.funds;
            lives = other.lives;
            policies = other.policies;
            System.arraycopy(other.chances, 0, chances, 0, MOST_LIVES * KINDS);
            System.arraycopy(other.habits, 0, habits, 0, MOST_LIVES);
            System.arraycopy(other.lifeOf, 0, lifeOf, 0, MOST_POLICIES);
            System.arraycopy(other.kindsOf, 0, kindsOf, 0, MOST_POLICIES);
            System.arraycopy(other.daysOf, 0, daysOf, 0, MOST_POLICIES);
            System.arraycopy(other.amountOf, 0, amountOf, 0, MOST_POLICIES);
            System.arraycopy(other.premiumOf, 0, premiumOf, 0, MOST_POLICIES);
        }

        void addLife(int[] numbers) {
            if (lives >= MOST_LIVES) {
                return;
            }
            for (int k = 0; k < KINDS; k++) {
                chances[lives * KINDS + k] = numbers[k];
            }
            habits[lives] = numbers[KINDS];
            lives++;
        }

        void addPolicy(int[] numbers) {
            if (policies >= MOST_POLICIES) {
                return;
            }
            lifeOf[policies] = numbers[0];
            kindsOf[policies] = numbers[1];
            daysOf[policies] = numbers[2];
            amountOf[policies] = numbers[3];
            premiumOf[policies] = numbers[4];
            policies++;
        }

        int oddsOf(int l, int kind, int habit) {
            return Math.min(1000, chances[l * KINDS + kind] << habit);
        }
    }

    /** Reads a text into a law of its own, so that a fault leaves the law that holds untouched. */
    private static final class Reader {
        static final int NO_FAULT = 0;
        private static final int CANNOT_STAND = 1, BAD_NUMBER = 2, TOO_MANY = 3;
        private static final int MOST_NUMBERS = 5, MOST_FIGURES = 3;

        final Law law = new Law();
        int faultPlace = NONE;
        private int faultNumber = NO_FAULT;
        int letters = 0;
        private final int[] text = new int[MOST_LETTERS];
        private int place = 0;
        private boolean begun = false;
        private final int[] numbers = new int[MOST_NUMBERS];

        int addLetter(int letter) {
            if (letters >= MOST_LETTERS) {
                return FULL;
            }
            text[letters] = letter;
            letters++;
            return letters;
        }

        /** Answers the number of the first FAULT; the text is gone with it. */
        int readText() {
            place = 0;
            begun = false;
            faultNumber = NO_FAULT;
            faultPlace = NONE;
            law.clear();
            skipBlanks();
            for (int clause = 0; clause < MOST_LETTERS && goesOn() && place < letters; clause++) {
                readClause();
                skipBlanks();
            }
            letters = 0;
            return faultNumber;
        }

        private boolean goesOn() {
            return faultNumber == NO_FAULT;
        }

        private void faultAt(int number, int where) {
            faultNumber = number;
            faultPlace = where;
        }

        private void skipBlanks() {
            while (place < letters && text[place] == ' ') {
                place++;
            }
        }

        private void readClause() {
            int word = text[place];
            int fault = faultOfWord(word);
            if (fault != NO_FAULT) {
                faultAt(fault, place);
                return;
            }
            place++;
            if (word == 'o') {
                readNumber(0, 0, MOST_SUM);
            } else if (word == 'l') {
                readLifeNumbers();
            } else {
                readPolicyNumbers();
            }
            readEnd();
            if (goesOn()) {
                takeClause(word);
            }
        }

        private int faultOfWord(int word) {
            boolean isOffice = word == 'o';
            boolean isLater = word == 'l' || word == 'p';
            if (!isOffice && !(begun && isLater)) {
                return CANNOT_STAND;
            }
            boolean isTooMany = isOffice ? begun
                    : word == 'l' ? law.lives >= MOST_LIVES : law.policies >= MOST_POLICIES;
            return isTooMany ? TOO_MANY : NO_FAULT;
        }

        private void readLifeNumbers() {
            for (int k = 0; k < KINDS; k++) {
                readNumber(k, 0, 200);
            }
            readNumber(KINDS, 0, MOST_HABIT);
        }

        private void readPolicyNumbers() {
            readNumber(0, 0, law.lives - 1);
            readNumber(1, 1, ALL_KINDS);
            readNumber(2, 1, MOST_DAYS_OF_QUIET);
            readNumber(3, 0, MOST_SUM);
            readNumber(4, 0, MOST_SUM);
        }

        private void readNumber(int i, int least, int most) {
            skipBlanks();
            if (!goesOn()) {
                return;
            }
            int first = place;
            int value = 0;
            while (place < letters && isFigure(text[place])) {
                // What has too many figures is a fault whatever its value, which may not grow beyond an int.
                if (place - first < MOST_FIGURES) {
                    value = value * 10 + text[place] - '0';
                }
                place++;
            }
            if (place == first) {
                faultAt(CANNOT_STAND, first);
            } else if (place - first > MOST_FIGURES || isOutside(value, least, most)) {
                faultAt(BAD_NUMBER, first);
            } else if (i >= 0 && i < MOST_NUMBERS) {
                numbers[i] = value;
            }
        }

        private static boolean isFigure(int letter) {
            return letter >= '0' && letter <= '9';
        }

        private void readEnd() {
            skipBlanks();
            if (!goesOn()) {
                return;
            }
            if (place < letters && text[place] == ';') {
                place++;
            } else {
                faultAt(CANNOT_STAND, place);
            }
        }

        private void takeClause(int word) {
            if (word == 'o') {
                begun = true;
                law.funds = numbers[0];
            } else if (word == 'l') {
                law.addLife(numbers);
            } else {
                law.addPolicy(numbers);
            }
        }
    }

    /** All that days, and what is done between them, change: what can be undone and kept in an image. */
    private static final class State {
        int dayNumber = 0;
        int funds = 0;
        int paidSum = 0;
        int dueSum = 0;
        int ruinDay = NONE;
        int lapsedSet = 0;
        int toldEvents = 0;
        final int[] habits = new int[MOST_LIVES];
        final int[] quiet = new int[MOST_POLICIES];

        void begin(Law law) {
            dayNumber = 0;
            funds = law.funds;
            paidSum = 0;
            dueSum = 0;
            ruinDay = NONE;
            lapsedSet = 0;
            toldEvents = 0;
            System.arraycopy(law.habits, 0, habits, 0, MOST_LIVES);
            Arrays.fill(quiet, 0);
        }

        void copyFrom(State other) {
            dayNumber = other.dayNumber;
            funds = other.funds;
            paidSum = other.paidSum;
            dueSum = other.dueSum;
            ruinDay = other.ruinDay;
            lapsedSet = other.lapsedSet;
            toldEvents = other.toldEvents;
            System.arraycopy(other.habits, 0, habits, 0, MOST_LIVES);
            System.arraycopy(other.quiet, 0, quiet, 0, MOST_POLICIES);
        }

        boolean hasLapsed(int p) {
            return (lapsedSet >> p & 1) != 0;
        }

        void addFunds(int sum) {
            funds = Math.min(MOST_FUNDS, funds + sum);
        }

        void passDay(Law law, int events) {
            dayNumber++;
            for (int p = 0; p < law.policies; p++) {
                if (hasLapsed(p)) {
                    continue;
                }
                if ((setOf(events, law.lifeOf[p]) & law.kindsOf[p]) != 0) {
                    quiet[p] = 0;
                    dueSum += law.premiumOf[p];
                    addFunds(law.premiumOf[p]);
                } else {
                    quiet[p]++;
                    payIfDue(law, p);
                }
            }
        }

        private void payIfDue(Law law, int p) {
            if (quiet[p] < law.daysOf[p]) {
                return;
            }
            quiet[p] = 0;
            int amount = law.amountOf[p];
            if (funds < amount && ruinDay == NONE) {
                ruinDay = dayNumber;
            }
            int payment = Math.min(funds, amount);
            funds -= payment;
            paidSum += payment;
        }
    }

    /** How it was ahead of each of the latest days, in a ring. */
    private static final class Past {
        private final State[] kept = new State[MOST_UNDONE];
        private int next = 0;
        int count = 0;

        void forget() {
            next = 0;
            count = 0;
        }

        void remember(State state) {
            if (kept[next] == null) {
                kept[next] = new State();
            }
            kept[next].copyFrom(state);
            next = next + 1 < MOST_UNDONE ? next + 1 : 0;
            count = Math.min(MOST_UNDONE, count + 1);
        }

        void takeBack(int n, State state) {
            if (n < 1 || n > count) {
                return;
            }
            next = next >= n ? next - n : next - n + MOST_UNDONE;
            count -= n;
            if (kept[next] != null) {
                state.copyFrom(kept[next]);
            }
        }
    }

    /** What is counted by odds. */
    private static final class Odds {
        private final int[] atQuiet = new int[MOST_DAYS_OF_QUIET];

        /** Each step is cut, so the order of KINDS and days is a part of the answer. */
        private static int calmBy(Law law, int l, int kinds, int habit, int n) {
            long calm = BILLION;
            for (int k = 0; k < KINDS; k++) {
                if ((kinds >> k & 1) == 0) {
                    continue;
                }
                int spared = 1000 - law.oddsOf(l, k, habit);
                for (int i = 0; i < n; i++) {
                    calm = calm * spared / 1000;
                }
            }
            return (int) calm;
        }

        static int calmOf(Law law, State state, int p, int n) {
            int l = law.lifeOf[p];
            return calmBy(law, l, law.kindsOf[p], state.habits[l], n);
        }

        static int fairPremium(Law law, State state, int p) {
            long calm = calmOf(law, state, p, law.daysOf[p]);
            long expected = law.amountOf[p] * calm;
            long stirred = BILLION - calm;
            if (expected == 0) {
                return 0;
            }
            return stirred <= 0 ? NONE : (int) ((expected + stirred - 1) / stirred);
        }

        int paidWithin(Law law, State state, int p, int n) {
            int length = Math.min(law.daysOf[p], MOST_DAYS_OF_QUIET);
            int now = state.quiet[p];
            if (isOutside(now, 0, length - 1)) {
                return 0;
            }
            long oneDay = calmOf(law, state, p, 1);
            Arrays.fill(atQuiet, 0);
            atQuiet[now] = BILLION;
            int paid = 0;
            for (int i = 0; i < n; i++) {
                int rising = 0;
                int falling = 0;
                for (int q = 0; q < length; q++) {
                    int here = atQuiet[q];
                    int goes = (int) (here * oneDay / BILLION);
                    atQuiet[q] = rising;
                    rising = goes;
                    falling += here - goes;
                }
                atQuiet[0] += falling;
                paid += rising;
            }
            return paid;
        }

        static int bestHabit(Law law, State state, int l) {
            int best = 0;
            for (int habit = 1; habit <= MOST_HABIT; habit++) {
                if (gainBy(law, state, l, habit) > gainBy(law, state, l, best)) {
                    best = habit;
                }
            }
            return best;
        }

        private static long gainBy(Law law, State state, int l, int habit) {
            long gain = habit == 0 ? 0 : habit == 1 ? 7000 : 16000;
            for (int p = 0; p < law.policies; p++) {
                if (law.lifeOf[p] == l && !state.hasLapsed(p)) {
                    long calm = calmBy(law, l, law.kindsOf[p], habit, law.daysOf[p]);
                    gain += law.amountOf[p] * calm / 1000000;
                }
            }
            return gain;
        }

        static int calmWithout(Law law, State state, int p, int kind) {
            int l = law.lifeOf[p];
            return calmBy(law, l, kindsWithout(law, p, kind), state.habits[l], law.daysOf[p]);
        }

        private static int kindsWithout(Law law, int p, int kind) {
            return law.kindsOf[p] & ~(1 << kind);
        }

        static int calmestWithout(Law law, State state, int kind) {
            int best = NONE;
            int bestCalm = NONE;
            for (int p = 0; p < law.policies; p++) {
                int calm = state.hasLapsed(p) ? NONE : calmWithout(law, state, p, kind);
                if (calm > bestCalm) {
                    best = p;
                    bestCalm = calm;
                }
            }
            return best;
        }

        static int leftWithoutKind(Law law, State state, int kind) {
            int count = 0;
            for (int p = 0; p < law.policies; p++) {
                if (!state.hasLapsed(p) && kindsWithout(law, p, kind) == 0) {
                    count++;
                }
            }
            return count;
        }
    }

    /** What would be in days to come. */
    private static final class Trial {
        private static final int LAST_TRIED = 999, BEYOND_ALL_DAYS = 1000;
        private final State tried = new State();

        int daysToRuin(Law law, State state) {
            tried.copyFrom(state);
            tried.ruinDay = NONE;
            for (int i = 1; i <= LAST_TRIED; i++) {
                tried.passDay(law, 0);
                if (tried.ruinDay != NONE) {
                    return i;
                }
            }
            return NONE;
        }

        int firstWrong(Law law, State state, Seen seen) {
            tried.copyFrom(state);
            for (int i = 0; i < seen.bookLines; i++) {
                tried.passDay(law, 0);
                if (tried.funds != seen.book[i]) {
                    return i;
                }
            }
            return NONE;
        }

        private static int paidInQuiet(Law law, State state, int p, int n) {
            int length = law.daysOf[p];
            return length < 1 ? 0 : (state.quiet[p] + n) / length * law.amountOf[p];
        }

        /** Without events nothing comes in, so that there is no RUIN just if FUNDS are as much as all payments. */
        private static int paidBySet(Law law, State state, int set, int n) {
            int sum = 0;
            for (int p = 0; p < law.policies; p++) {
                if ((set >> p & 1) != 0) {
                    sum += paidInQuiet(law, state, p, n);
                }
            }
            return sum;
        }

        private static int notLapsed(Law law, State state) {
            return ((1 << law.policies) - 1) & ~state.lapsedSet;
        }

        static int fundsNeeded(Law law, State state, int n) {
            return paidBySet(law, state, notLapsed(law, state), n);
        }

        static int premiumsOf(Law law, int set) {
            int sum = 0;
            for (int p = 0; p < law.policies; p++) {
                if ((set >> p & 1) != 0) {
                    sum += law.premiumOf[p];
                }
            }
            return sum;
        }

        static int bestToKeep(Law law, State state, int n) {
            int all = notLapsed(law, state);
            int best = 0;
            for (int set = 1; set <= all; set++) {
                if ((set & ~all) == 0 && paidBySet(law, state, set, n) <= state.funds && isBetter(law, set, best)) {
                    best = set;
                }
            }
            return best;
        }

        private static boolean isBetter(Law law, int set, int best) {
            int order = Integer.compare(premiumsOf(law, set), premiumsOf(law, best));
            return order > 0 || order == 0 && Integer.bitCount(set) < Integer.bitCount(best);
        }

        private static boolean isLit(Law law, State state, int p, int l, int kind) {
            return law.lifeOf[p] == l && (law.kindsOf[p] >> kind & 1) != 0 && !state.hasLapsed(p);
        }

        /** The day on which a policy that such a fire stirs would pay first; beyond all days if none would. */
        static int firstPayment(Law law, State state, int l, int kind) {
            int first = BEYOND_ALL_DAYS;
            for (int p = 0; p < law.policies; p++) {
                if (isLit(law, state, p, l, kind)) {
                    first = Math.min(first, law.daysOf[p] - state.quiet[p]);
                }
            }
            return first;
        }

        /** A fire brings all of them to quiet 0, so the next is due when the shortest of them would pay. */
        static int firesFrom(Law law, State state, int l, int kind, int first, int n) {
            int shortest = MOST_DAYS_OF_QUIET;
            for (int p = 0; p < law.policies; p++) {
                if (isLit(law, state, p, l, kind)) {
                    shortest = Math.min(shortest, law.daysOf[p]);
                }
            }
            return shortest < 1 ? 0 : 1 + (n - first) / shortest;
        }
    }

    /** What was told of days: witnesses, the ledger, the book. */
    private static final class Seen {
        int witnesses = 0;
        int ledgerLines = 0;
        int bookLines = 0;
        private final int[] sawDays = new int[MOST_WITNESSES];
        final int[] ledgerFunds = new int[MOST_LEDGER];
        final int[] book = new int[MOST_BOOK];

        void clear() {
            witnesses = 0;
            ledgerLines = 0;
            bookLines = 0;
        }

        int addWitness(int days) {
            if (witnesses >= MOST_WITNESSES) {
                return FULL;
            }
            sawDays[witnesses] = days;
            witnesses++;
            return witnesses;
        }

        int addToLedger(int funds) {
            if (ledgerLines >= MOST_LEDGER) {
                return FULL;
            }
            ledgerFunds[ledgerLines] = funds;
            ledgerLines++;
            return ledgerLines;
        }

        int addToBook(int funds) {
            if (bookLines >= MOST_BOOK) {
                return FULL;
            }
            book[bookLines] = funds;
            bookLines++;
            return bookLines;
        }

        int fewestFor(int days) {
            int best = NONE;
            for (int set = 0; set < 1 << witnesses; set++) {
                boolean isFewer = best == NONE || Integer.bitCount(set) < Integer.bitCount(best);
                if (isFewer && (days & ~daysSeenBy(set)) == 0) {
                    best = set;
                }
            }
            return best;
        }

        private int daysSeenBy(int set) {
            int days = 0;
            for (int w = 0; w < witnesses; w++) {
                if ((set >> w & 1) != 0) {
                    days |= sawDays[w];
                }
            }
            return days;
        }
    }

    /** Tries all rows of events on one life; a row is a number, four bits a day, the first day highest. */
    private static final class LedgerSearch {
        int rowsThatFit = 0;
        int firstRow = NONE;
        int sureKinds = 0;
        private final State tried = new State();

        void run(Law law, State state, Seen seen, int l) {
            rowsThatFit = 0;
            firstRow = NONE;
            sureKinds = 0;
            int lines = seen.ledgerLines;
            for (int row = 0; row < 1 << (KINDS * lines); row++) {
                int fitting = daysThatFit(law, state, seen, l, row);
                if (fitting < lines) {
                    // All rows that begin alike up to the day that doesn't fit fail with this one.
                    row |= (1 << (KINDS * (lines - 1 - fitting))) - 1;
                } else {
                    takeRow(row, lines);
                }
            }
        }

        private int daysThatFit(Law law, State state, Seen seen, int l, int row) {
            tried.copyFrom(state);
            for (int i = 0; i < seen.ledgerLines; i++) {
                tried.passDay(law, onLife(l, setIn(row, i, seen.ledgerLines)));
                if (tried.funds != seen.ledgerFunds[i]) {
                    return i;
                }
            }
            return seen.ledgerLines;
        }

        private void takeRow(int row, int lines) {
            int kinds = 0;
            for (int i = 0; i < lines; i++) {
                kinds |= setIn(row, i, lines);
            }
            sureKinds = rowsThatFit == 0 ? kinds : sureKinds & kinds;
            if (rowsThatFit == 0) {
                firstRow = row;
            }
            rowsThatFit++;
        }

        static int setIn(int row, int i, int lines) {
            return (row >> (KINDS * (lines - 1 - i))) & ALL_KINDS;
        }
    }
}
