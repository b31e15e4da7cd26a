import java.util.ArrayList;
import java.util.Arrays;
import java.util.List;
import java.util.TreeMap;

/**
 * The document a second time, as plainly as it can be written and without a thought of speed: what the class counts
 * by a rule is found here by trying. It shares nothing with the class but the constants.
 */
final class Model {
    private static final int NONE = QuietOffice.NONE, UNKNOWN = QuietOffice.UNKNOWN, OUTSIDE = QuietOffice.OUTSIDE;
    private static final int NOT = QuietOffice.NOT, FULL = QuietOffice.FULL;
    private static final long BILLION = 1000000000L;

    /** Section 2: all that an IMAGE keeps but THE SEED. */
    private static final class Now {
        long funds = 0;
        int day = 0;
        int paid = 0;
        int due = 0;
        int ruin = NONE;
        int[] habit = {};
        int[] events = {};
        int[] quiet = {};
        boolean[] lapsed = {};

        Now copy() {
            Now copy = new Now();
            copy.funds = funds;
            copy.day = day;
            copy.paid = paid;
            copy.due = due;
            copy.ruin = ruin;
            copy.habit = habit.clone();
            copy.events = events.clone();
            copy.quiet = quiet.clone();
            copy.lapsed = lapsed.clone();
            return copy;
        }
    }

    private final StringBuilder text = new StringBuilder();
    private int faultPlace = NONE;
    private List<int[]> lives = new ArrayList<>();
    private List<int[]> policies = new ArrayList<>();
    private Now now = new Now();
    private final List<Now> undoable = new ArrayList<>();
    private final Now[] image = new Now[2];
    private final long[] imageSeed = new long[2];
    private long seed = 0;
    private final List<Integer> witnesses = new ArrayList<>();
    private final List<Integer> ledger = new ArrayList<>();
    private final List<Integer> book = new ArrayList<>();

    // ---- the office

    int feed(int letter) {
        if (letter < 0 || letter > 255) {
            return OUTSIDE;
        }
        if (text.length() == 250) {
            return FULL;
        }
        text.append((char) letter);
        return text.length();
    }

    int office() {
        TextModel read = new TextModel(text.toString());
        text.setLength(0);
        faultPlace = read.place;
        if (read.fault != 0) {
            return -10 - read.fault;
        }
        lives = read.lives;
        policies = read.policies;
        now = new Now();
        now.funds = read.funds;
        now.habit = new int[lives.size()];
        now.events = new int[lives.size()];
        for (int l = 0; l < lives.size(); l++) {
            now.habit[l] = lives.get(l)[4];
        }
        now.quiet = new int[policies.size()];
        now.lapsed = new boolean[policies.size()];
        undoable.clear();
        image[0] = null;
        image[1] = null;
        tear();
        return policies.size();
    }

    int fault() {
        return faultPlace;
    }

    int told(int what) {
        int lapsed = 0;
        for (int p = 0; p < policies.size(); p++) {
            lapsed += now.lapsed[p] ? 1 << p : 0;
        }
        int[] all = {lives.size(), policies.size(), text.length(), now.day, (int) now.funds, now.paid, now.due, now.ruin,
            lapsed, witnesses.size(), ledger.size(), book.size(), undoable.size()};
        return what < 0 || what > 12 ? OUTSIDE : all[what];
    }

    int life(int l, int what) {
        if (noLife(l)) {
            return UNKNOWN;
        }
        if (what < 0 || what > 5) {
            return OUTSIDE;
        }
        return what < 4 ? odds(l, what, now.habit[l]) : what == 4 ? now.habit[l] : now.events[l];
    }

    int policy(int p, int what) {
        if (noPolicy(p)) {
            return UNKNOWN;
        }
        return what < 0 || what > 5 ? OUTSIDE : what == 5 ? now.quiet[p] : policies.get(p)[what];
    }

    private boolean noLife(int l) {
        return l < 0 || l >= lives.size();
    }

    private boolean noPolicy(int p) {
        return p < 0 || p >= policies.size();
    }

    private int odds(int l, int kind, int habit) {
        int times = habit == 0 ? 1 : habit == 1 ? 2 : 4;
        return Math.min(1000, times * lives.get(l)[kind]);
    }

    // ---- days

    int event(int l, int set) {
        if (noLife(l)) {
            return UNKNOWN;
        }
        if (set < 0 || set > 15) {
            return OUTSIDE;
        }
        int was = now.events[l];
        now.events[l] = set;
        return was;
    }

    int day(int n) {
        return days(n, false);
    }

    int drift(int n) {
        return days(n, true);
    }

    private int days(int n, boolean drawn) {
        if (n < 1 || n > 99) {
            return OUTSIDE;
        }
        if (now.day > 90000) {
            return FULL;
        }
        for (int i = 0; i < n; i++) {
            undoable.add(now.copy());
            if (undoable.size() > 30) {
                undoable.remove(0);
            }
            int[] events = now.events;
            now.events = new int[lives.size()];
            for (int l = 0; drawn && l < lives.size(); l++) {
                for (int k = 0; k < 4; k++) {
                    seed = (seed * 1103515245L + 12345) % (1L << 31);
                    events[l] |= seed / 65536 % 1000 < odds(l, k, now.habit[l]) ? 1 << k : 0;
                }
            }
            live(now, events);
        }
        return (int) now.funds;
    }

    /** A DAY; whether there was RUIN on it. */
    private boolean live(Now at, int[] events) {
        boolean ruin = false;
        at.day++;
        for (int p = 0; p < policies.size(); p++) {
            int[] policy = policies.get(p);
            if (at.lapsed[p]) {
                continue;
            }
            if ((events[policy[0]] & policy[1]) != 0) {
                at.funds = Math.min(999999, at.funds + policy[4]);
                at.due += policy[4];
                at.quiet[p] = 0;
                continue;
            }
            at.quiet[p]++;
            if (at.quiet[p] == policy[2]) {
                at.quiet[p] = 0;
                ruin |= at.funds < policy[3];
                long sum = at.funds < policy[3] ? at.funds : policy[3];
                at.funds -= sum;
                at.paid += (int) sum;
            }
        }
        if (ruin && at.ruin == NONE) {
            at.ruin = at.day;
        }
        return ruin;
    }

    int fund(int n) {
        if (n < 0 || n > 999) {
            return OUTSIDE;
        }
        now.funds = Math.min(999999, now.funds + n);
        return (int) now.funds;
    }

    int habit(int l, int h) {
        if (noLife(l)) {
            return UNKNOWN;
        }
        if (h < 0 || h > 2) {
            return OUTSIDE;
        }
        int was = now.habit[l];
        now.habit[l] = h;
        return was;
    }

    int lapse(int p, boolean is) {
        if (noPolicy(p)) {
            return UNKNOWN;
        }
        int was = now.lapsed[p] ? 1 : 0;
        now.lapsed[p] = is;
        return was;
    }

    int undo(int n) {
        if (n < 1 || n > 30) {
            return OUTSIDE;
        }
        if (n > undoable.size()) {
            return NOT;
        }
        for (int i = 0; i < n; i++) {
            now = undoable.remove(undoable.size() - 1);
        }
        return now.day;
    }

    // ---- odds

    private long calmOf(int l, int kinds, int habit, int n) {
        long calm = BILLION;
        for (int k = 0; k < 4; k++) {
            for (int i = 0; i < n && (kinds & 1 << k) != 0; i++) {
                calm = calm * (1000 - odds(l, k, habit)) / 1000;
            }
        }
        return calm;
    }

    private long calmNow(int p, int n) {
        int[] policy = policies.get(p);
        return calmOf(policy[0], policy[1], now.habit[policy[0]], n);
    }

    int calm(int p, int n) {
        return noPolicy(p) ? UNKNOWN : n < 0 || n > 99 ? OUTSIDE : (int) calmNow(p, n);
    }

    /** A BILLION less CALM is a million at least where it is not 0, so the least PREMIUM is below a million. */
    int fair(int p) {
        if (noPolicy(p)) {
            return UNKNOWN;
        }
        long calm = calmNow(p, policies.get(p)[2]);
        for (long premium = 0; premium < 1000000; premium++) {
            if (premium * (BILLION - calm) >= policies.get(p)[3] * calm) {
                return (int) premium;
            }
        }
        return NONE;
    }

    int pays(int p, int n) {
        if (noPolicy(p)) {
            return UNKNOWN;
        }
        if (n < 1 || n > 60) {
            return OUTSIDE;
        }
        if (now.lapsed[p]) {
            return NOT;
        }
        int d = policies.get(p)[2];
        long oneDay = calmNow(p, 1);
        long paid = 0;
        TreeMap<Integer, Long> at = new TreeMap<>();
        at.put(now.quiet[p], BILLION);
        for (int i = 0; i < n; i++) {
            TreeMap<Integer, Long> next = new TreeMap<>();
            for (int quiet : at.keySet()) {
                long goes = at.get(quiet) * oneDay / BILLION;
                next.merge(quiet + 1, goes, Long::sum);
                next.merge(0, at.get(quiet) - goes, Long::sum);
            }
            Long out = next.remove(d);
            paid += out == null ? 0 : out;
            at = next;
        }
        return (int) paid;
    }

    // ---- tried

    /** In how many days there is RUIN, if nothing befalls anybody, or NONE. */
    private int ruinOf(Now from, int n) {
        for (int i = 1; i <= n; i++) {
            if (live(from, new int[lives.size()])) {
                return i;
            }
        }
        return NONE;
    }

    int soonest() {
        return ruinOf(now.copy(), 999);
    }

    /** FUNDS beside which one less is RUIN; more FUNDS never make one. */
    int needs(int n) {
        if (n < 1 || n > 99) {
            return OUTSIDE;
        }
        long ruins = -1;
        long enough = 1000000;
        while (enough - ruins > 1) {
            Now tried = now.copy();
            tried.funds = (ruins + enough) / 2;
            long middle = tried.funds;
            if (ruinOf(tried, n) == NONE) {
                enough = middle;
            } else {
                ruins = middle;
            }
        }
        return (int) enough;
    }

    int keepWhich(int n, int what) {
        if (n < 1 || n > 60 || what < 0 || what > 1) {
            return OUTSIDE;
        }
        int most = -1;
        int which = 0;
        for (int size = 0; size <= 6; size++) {
            for (int set = 0; set < 1 << policies.size(); set++) {
                Now tried = now.copy();
                int premiums = 0;
                boolean mayBe = Integer.bitCount(set) == size;
                for (int p = 0; p < policies.size(); p++) {
                    boolean isIn = (set & 1 << p) != 0;
                    mayBe &= !isIn || !now.lapsed[p];
                    premiums += isIn ? policies.get(p)[4] : 0;
                    tried.lapsed[p] = !isIn;
                }
                if (mayBe && premiums > most && ruinOf(tried, n) == NONE) {
                    most = premiums;
                    which = set;
                }
            }
        }
        return what == 0 ? most : which;
    }

    int choose(int l) {
        if (noLife(l)) {
            return UNKNOWN;
        }
        long[] gain = {0, 7000, 16000};
        for (int h = 0; h < 3; h++) {
            for (int p = 0; p < policies.size(); p++) {
                int[] policy = policies.get(p);
                if (policy[0] == l && !now.lapsed[p]) {
                    gain[h] += policy[3] * calmOf(l, policy[1], h, policy[2]) / 1000000;
                }
            }
        }
        long most = Math.max(gain[0], Math.max(gain[1], gain[2]));
        return gain[0] == most ? 0 : gain[1] == most ? 1 : 2;
    }

    /** The fewest fires with the first of them at each day, found from the last day back. */
    int fires(int l, int kind, int n, int what) {
        if (noLife(l)) {
            return UNKNOWN;
        }
        if (kind < 0 || kind > 3 || n < 1 || n > 99 || what < 0 || what > 1) {
            return OUTSIDE;
        }
        if (!paysBetween(l, kind, 0, n + 1)) {
            return what == 0 ? 0 : NONE;
        }
        int[] fewest = new int[n + 1];
        for (int fire = n; fire >= 1; fire--) {
            fewest[fire] = paysBetween(l, kind, fire, n + 1) ? 1000 : 1;
            for (int next = fire + 1; next <= n; next++) {
                if (!paysBetween(l, kind, fire, next)) {
                    fewest[fire] = Math.min(fewest[fire], 1 + fewest[next]);
                }
            }
        }
        int least = 1000;
        int first = NONE;
        for (int fire = 1; fire <= n; fire++) {
            if (!paysBetween(l, kind, 0, fire) && fewest[fire] <= least) {
                least = fewest[fire];
                first = fire;
            }
        }
        return what == 0 ? least : first;
    }

    /** Whether one of them pays on a day behind one fire (0: now) and ahead of the next. */
    private boolean paysBetween(int l, int kind, int fire, int next) {
        for (int p = 0; p < policies.size(); p++) {
            int[] policy = policies.get(p);
            int quiet = fire == 0 ? now.quiet[p] : 0;
            boolean isOfIt = policy[0] == l && (policy[1] & 1 << kind) != 0 && !now.lapsed[p];
            if (isOfIt && quiet + (next - fire - 1) >= policy[2]) {
                return true;
            }
        }
        return false;
    }

    int struck(int kind, int what) {
        if (kind < 0 || kind > 3 || what < 0 || what > 2) {
            return OUTSIDE;
        }
        long greatest = NONE;
        int which = NONE;
        int bare = 0;
        for (int p = 0; p < policies.size(); p++) {
            int[] policy = policies.get(p);
            if (now.lapsed[p]) {
                continue;
            }
            int left = (policy[1] & 1 << kind) == 0 ? policy[1] : policy[1] - (1 << kind);
            long calm = left == 0 ? BILLION : calmOf(policy[0], left, now.habit[policy[0]], policy[2]);
            bare += left == 0 ? 1 : 0;
            if (which == NONE || calm > greatest) {
                which = p;
                greatest = calm;
            }
        }
        return what == 0 ? (int) greatest : what == 1 ? which : bare;
    }

    // ---- what was seen

    private static int added(List<Integer> list, int n, int most, int bound) {
        if (n < 0 || n > bound) {
            return OUTSIDE;
        }
        if (list.size() == most) {
            return FULL;
        }
        list.add(n);
        return list.size();
    }

    int witness(int days) {
        return added(witnesses, days, 8, 65535);
    }

    int fewest(int days, int what) {
        if (days < 0 || days > 65535 || what < 0 || what > 1) {
            return OUTSIDE;
        }
        for (int size = 0; size <= 8; size++) {
            for (int set = 0; set < 1 << witnesses.size(); set++) {
                int together = 0;
                for (int w = 0; w < witnesses.size(); w++) {
                    together |= (set & 1 << w) == 0 ? 0 : witnesses.get(w);
                }
                if (Integer.bitCount(set) == size && (together & days) == days) {
                    return what == 0 ? size : set;
                }
            }
        }
        return NONE;
    }

    int ledger(int funds) {
        return added(ledger, funds, 3, 999999);
    }

    private List<int[]> rowsOf(int l) {
        List<int[]> rows = new ArrayList<>();
        addRows(rows, now, l, new int[0]);
        return rows;
    }

    private void addRows(List<int[]> rows, Now at, int l, int[] begun) {
        if (begun.length == ledger.size()) {
            rows.add(begun);
            return;
        }
        for (int set = 0; set <= 15; set++) {
            Now tried = at.copy();
            int[] events = new int[lives.size()];
            events[l] = set;
            live(tried, events);
            if (tried.funds == ledger.get(begun.length)) {
                int[] longer = Arrays.copyOf(begun, begun.length + 1);
                longer[begun.length] = set;
                addRows(rows, tried, l, longer);
            }
        }
    }

    int befell(int l, int i) {
        if (noLife(l)) {
            return UNKNOWN;
        }
        List<int[]> rows = rowsOf(l);
        if (i == NONE) {
            return rows.size();
        }
        return rows.isEmpty() || i < 0 || i >= ledger.size() ? NONE : rows.get(0)[i];
    }

    int sure(int l) {
        if (noLife(l)) {
            return UNKNOWN;
        }
        List<int[]> rows = rowsOf(l);
        int sure = 0;
        for (int k = 0; k < 4; k++) {
            boolean isInAll = !rows.isEmpty();
            for (int[] row : rows) {
                boolean isInSome = false;
                for (int set : row) {
                    isInSome |= (set & 1 << k) != 0;
                }
                isInAll &= isInSome;
            }
            sure += isInAll ? 1 << k : 0;
        }
        return sure;
    }

    int write(int funds) {
        return added(book, funds, 20, 999999);
    }

    int judge() {
        Now tried = now.copy();
        for (int i = 0; i < book.size(); i++) {
            live(tried, new int[lives.size()]);
            if (tried.funds != book.get(i)) {
                return i;
            }
        }
        return NONE;
    }

    int tear() {
        int all = witnesses.size() + ledger.size() + book.size();
        witnesses.clear();
        ledger.clear();
        book.clear();
        return all;
    }

    /** Lines that fit: FUNDS behind days on which these SETS befall a life, for tests that draw what to tell. */
    int[] fundsBehind(int l, int[] row) {
        Now tried = now.copy();
        int[] funds = new int[row.length];
        for (int i = 0; i < row.length; i++) {
            int[] events = new int[lives.size()];
            if (!noLife(l)) {
                events[l] = row[i];
            }
            live(tried, events);
            funds[i] = (int) tried.funds;
        }
        return funds;
    }

    // ---- images

    int seed(int v) {
        if (v < 0) {
            return OUTSIDE;
        }
        int was = (int) seed;
        seed = v;
        return was;
    }

    int keep(int i) {
        if (i < 0 || i > 1) {
            return UNKNOWN;
        }
        image[i] = now.copy();
        imageSeed[i] = seed;
        undoable.clear();
        return 1;
    }

    int goBack(int i) {
        if (i < 0 || i > 1) {
            return UNKNOWN;
        }
        if (image[i] == null) {
            return NOT;
        }
        now = image[i].copy();
        seed = imageSeed[i];
        undoable.clear();
        return 1;
    }
}
