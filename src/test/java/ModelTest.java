import java.util.Random;

/**
 * Drawn runs of calls, up to the 512 that are promised, on the class and on the document's second writing (Model):
 * each answer is held against the model's.
 */
public final class ModelTest {
    private static final int RUNS = 1500, CALLS = 512;
    private static final int[] FAR = {Integer.MIN_VALUE, -1000000, -2, -1, 100, 256, 1000, 65536, 1000000, Integer.MAX_VALUE};

    private final Random random;
    private final QuietOffice x = new QuietOffice();
    private final Model model = new Model();
    private final StringBuilder run = new StringBuilder();
    private int calls = 0;
    private boolean isAlike = true;

    private ModelTest(long number) {
        random = new Random(number);
    }

    public static void main(String[] args) {
        for (int i = 0; i < RUNS; i++) {
            ModelTest test = new ModelTest(i);
            test.tellOffice(i % 3 == 0 ? 1 + i % 2 : 0);
            while (test.isAlike && test.calls < CALLS) {
                test.anyCall();
            }
        }
        Check.end();
    }

    private void due(String call, int got, int want) {
        calls++;
        run.append(call).append(' ');
        if (isAlike && got != want) {
            System.out.println(run);
        }
        isAlike &= got == want;
        Check.due(call, got, want);
    }

    private int upTo(int most) {
        return random.nextInt(most + 1);
    }

    private boolean seldom() {
        return upTo(24) == 0;
    }

    /** Mostly within its bounds, with the ends more often; now and then beside them or far off. */
    private int within(int least, int most) {
        if (seldom()) {
            return upTo(1) == 0 ? FAR[upTo(FAR.length - 1)] : upTo(1) == 0 ? least - 1 : most + 1;
        }
        return upTo(5) == 0 ? (upTo(1) == 0 ? least : most) : least + upTo(most - least);
    }

    private int aLife() {
        return within(0, Math.max(0, model.told(0) - 1));
    }

    private int aPolicy() {
        return within(0, Math.max(0, model.told(1) - 1));
    }

    // ---- texts

    /** Mostly of one figure, so that many clauses have room and sums are often alike. */
    private int small(int most) {
        return upTo(3) == 0 ? upTo(most) : upTo(Math.min(most, 4));
    }

    private String drawnLife() {
        return "l" + small(200) + " " + small(200) + " " + small(200) + " " + small(200) + " " + upTo(2) + ";";
    }

    private String drawnPolicy(int lives) {
        int days = upTo(2) == 0 ? 1 + upTo(29) : 1 + upTo(4);
        return "p" + upTo(lives - 1) + " " + (1 + upTo(14)) + " " + days + " " + small(999) + " " + small(999) + ";";
    }

    private String drawnText() {
        StringBuilder text = new StringBuilder("o" + upTo(upTo(2) == 0 ? 999 : 99) + ";");
        int lives = 0;
        int policies = 0;
        boolean isTooLong = upTo(9) == 0;
        int clauses = isTooLong ? 12 : seldom() ? 0 : 2 + upTo(8);
        for (int i = 0; i < clauses; i++) {
            boolean mayLive = lives < 4 || isTooLong && policies == 6;
            if (lives == 0 || mayLive && (policies == 6 || upTo(2) == 0)) {
                text.append(drawnLife());
                lives++;
            } else if (policies < 6 || isTooLong) {
                text.append(drawnPolicy(lives));
                policies++;
            }
        }
        return text.toString();
    }

    /** A letter put in, taken out or changed: mostly a FAULT, now and then none. */
    private String marred(String text) {
        String letters = "olp;; 00123456789x";
        StringBuilder marred = new StringBuilder(text);
        int place = upTo(text.length());
        char letter = letters.charAt(upTo(letters.length() - 1));
        if (upTo(2) == 0 || place == text.length()) {
            marred.insert(place, letter);
        } else if (upTo(1) == 0) {
            marred.deleteCharAt(place);
        } else {
            marred.setCharAt(place, letter);
        }
        return marred.toString();
    }

    /** Behind a text that was marred so many times another comes, mostly, so that there is an office. */
    private void tellOffice(int mars) {
        String text = drawnText();
        for (int i = 0; i < mars; i++) {
            text = marred(text);
        }
        for (int i = 0; i < text.length() && calls < CALLS - 1; i++) {
            feed(text.charAt(i));
        }
        office();
        if (mars > 0 && calls < CALLS - 260 && !seldom()) {
            tellOffice(0);
        }
    }

    private void feed(int letter) {
        due("feed(" + letter + ")", x.feed(letter), model.feed(letter));
    }

    private void office() {
        due("office()", x.office(), model.office());
        if (calls < CALLS) {
            due("fault()", x.fault(), model.fault());
        }
    }

    // ---- calls

    private void anyCall() {
        int group = upTo(19);
        if (group == 0) {
            textCall();
        } else if (group < 4) {
            askedCall();
        } else if (group < 11) {
            dayCall();
        } else if (group < 13) {
            oddsCall();
        } else if (group < 16) {
            triedCall();
        } else if (group < 19) {
            seenCall();
        } else {
            imageCall();
        }
    }

    private void textCall() {
        if (seldom() && calls < CALLS - 260) {
            tellOffice(upTo(1));
        } else if (seldom() && seldom()) {
            office();
        } else if (upTo(9) == 0) {
            feed(within(0, 255));
        } else {
            due("fault()", x.fault(), model.fault());
        }
    }

    private void askedCall() {
        int what = within(0, 5);
        int l = aLife();
        int p = aPolicy();
        int told = within(0, 12);
        switch (upTo(2)) {
            case 0: due("told(" + told + ")", x.told(told), model.told(told)); break;
            case 1: due("life(" + l + ", " + what + ")", x.life(l, what), model.life(l, what)); break;
            default: due("policy(" + p + ", " + what + ")", x.policy(p, what), model.policy(p, what));
        }
    }

    private void dayCall() {
        int l = aLife();
        int p = aPolicy();
        int set = within(0, 15);
        int h = within(0, 2);
        int n = upTo(3) == 0 ? within(1, 99) : 1 + upTo(3);
        int few = upTo(3) == 0 ? within(1, 30) : 1 + upTo(3);
        int sum = within(0, 999);
        boolean is = upTo(2) == 0;
        switch (upTo(9)) {
            case 0: case 1: case 2: due("event(" + l + ", " + set + ")", x.event(l, set), model.event(l, set)); break;
            case 3: case 4: due("day(" + n + ")", x.day(n), model.day(n)); break;
            case 5: due("drift(" + n + ")", x.drift(n), model.drift(n)); break;
            case 6: due("fund(" + sum + ")", x.fund(sum), model.fund(sum)); break;
            case 7: due("habit(" + l + ", " + h + ")", x.habit(l, h), model.habit(l, h)); break;
            case 8: due("lapse(" + p + ", " + is + ")", x.lapse(p, is), model.lapse(p, is)); break;
            default: due("undo(" + few + ")", x.undo(few), model.undo(few));
        }
    }

    private void oddsCall() {
        int p = aPolicy();
        int n = within(0, 99);
        int m = within(1, 60);
        switch (upTo(2)) {
            case 0: due("calm(" + p + ", " + n + ")", x.calm(p, n), model.calm(p, n)); break;
            case 1: due("fair(" + p + ")", x.fair(p), model.fair(p)); break;
            default: due("pays(" + p + ", " + m + ")", x.pays(p, m), model.pays(p, m));
        }
    }

    private void triedCall() {
        int l = aLife();
        int kind = within(0, 3);
        int n = within(1, 99);
        int m = within(1, 60);
        int what = within(0, 1);
        int which = within(0, 2);
        switch (upTo(5)) {
            case 0: due("soonest()", x.soonest(), model.soonest()); break;
            case 1: due("needs(" + n + ")", x.needs(n), model.needs(n)); break;
            case 2: due("keepWhich(" + m + ", " + what + ")", x.keepWhich(m, what), model.keepWhich(m, what)); break;
            case 3: due("choose(" + l + ")", x.choose(l), model.choose(l)); break;
            case 4: due("fires(" + l + ", " + kind + ", " + n + ", " + what + ")",
                    x.fires(l, kind, n, what), model.fires(l, kind, n, what)); break;
            default: due("struck(" + kind + ", " + which + ")", x.struck(kind, which), model.struck(kind, which));
        }
    }

    private void seenCall() {
        int l = aLife();
        int i = within(-1, 2);
        int days = upTo(1) == 0 ? within(0, 65535) : 1 << upTo(15) | 1 << upTo(15);
        int what = within(0, 1);
        switch (upTo(20)) {
            case 0: due("tear()", x.tear(), model.tear()); break;
            case 1: case 2: case 3: askWitnesses(); break;
            case 4: case 5: case 6: due("fewest(" + days + ", " + what + ")", x.fewest(days, what), model.fewest(days, what)); break;
            case 7: case 8: tellLedger(l); break;
            case 9: case 10: case 11: due("befell(" + l + ", " + i + ")", x.befell(l, i), model.befell(l, i)); break;
            case 12: case 13: due("sure(" + l + ")", x.sure(l), model.sure(l)); break;
            case 14: case 15: case 16: writeBook(); break;
            default: due("judge()", x.judge(), model.judge());
        }
    }

    private int someDays() {
        return random.nextInt(65536) & random.nextInt(65536) & 0xfff;
    }

    private void askWitnesses() {
        int most = 1 + upTo(3);
        for (int i = 0; i < most && calls < CALLS; i++) {
            int days = upTo(1) == 0 ? someDays() : someDays() | someDays();
            due("witness(" + days + ")", x.witness(days), model.witness(days));
        }
        for (int what = 0; what <= 1 && calls < CALLS; what++) {
            int days = someDays();
            due("fewest(" + days + ", " + what + ")", x.fewest(days, what), model.fewest(days, what));
        }
    }

    /** Lines from a row that was drawn, so that some rows fit; then what befell, ahead of all that changes it. */
    private void tellLedger(int l) {
        due("tear()", x.tear(), model.tear());
        int[] row = {upTo(15) & upTo(15), upTo(15) & upTo(15), upTo(15) & upTo(15), 0};
        int[] lines = model.fundsBehind(l, row);
        int most = upTo(4);
        for (int i = 0; i < most && calls < CALLS - 5; i++) {
            int funds = seldom() ? within(0, 999999) : lines[i];
            due("ledger(" + funds + ")", x.ledger(funds), model.ledger(funds));
        }
        for (int i = -1; i <= 2 && calls < CALLS; i++) {
            due("befell(" + l + ", " + i + ")", x.befell(l, i), model.befell(l, i));
        }
        if (calls < CALLS) {
            due("sure(" + l + ")", x.sure(l), model.sure(l));
        }
    }

    private void writeBook() {
        if (upTo(2) == 0 && calls < CALLS - 1) {
            due("tear()", x.tear(), model.tear());
        }
        int[] lines = model.fundsBehind(0, new int[21]);
        int most = upTo(9) == 0 ? 21 : 1 + upTo(3);
        for (int i = 0; i < most && calls < CALLS - 1; i++) {
            int funds = upTo(99) == 0 ? within(0, 999999) : lines[Math.min(20, model.told(11))];
            due("write(" + funds + ")", x.write(funds), model.write(funds));
        }
        due("judge()", x.judge(), model.judge());
    }

    private void imageCall() {
        int i = within(0, 1);
        int v = upTo(9) == 0 ? -1 - upTo(9) : random.nextInt(Integer.MAX_VALUE);
        switch (upTo(2)) {
            case 0: due("seed(" + v + ")", x.seed(v), model.seed(v)); break;
            case 1: due("keep(" + i + ")", x.keep(i), model.keep(i)); break;
            default: due("goBack(" + i + ")", x.goBack(i), model.goBack(i));
        }
    }
}
