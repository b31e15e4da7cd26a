import java.math.BigInteger;

/** Section 2, draws, undoing, and promises 5 to 14 at their bounds; each test names the sentence that it holds. */
public final class DaysEdgesTest {
    public static void main(String[] args) {
        toldHasBounds();
        lifeHasBounds();
        policyHasBounds();
        oddsGrowByHabit();
        eventHasBounds();
        eventsAreForTheNextDay();
        dayAndDriftHaveBounds();
        quietIsPaidAtItsDays();
        quietBeginsAnew();
        fundsJustEnoughAreNoRuin();
        theFirstRuinIsKept();
        policyByPolicy();
        fundsAre999999AtMost();
        fundHasBounds();
        habitHasBounds();
        lapseHasBounds();
        whatLapsedDoesNothing();
        aDrawBelowItsOddsBefalls();
        drawsGoLifeByLifeKindByKind();
        theSeedIsLeftOverBy2To31();
        drawnComesToWhatWasTold();
        undoHasBounds();
        thirtyDaysAreKept();
        undoneDayByDay();
        undoneWithAllDoneSince();
        theDayIsAbove90000();
        all512CallsAnswer();
        Check.end();
    }

    private static QuietOffice two() {
        return Check.officeOf(Check.TWO_LIVES);
    }

    /** Promise 5: "0 LIVES, .. 12 DAYS that can be undone. OUTSIDE." */
    private static void toldHasBounds() {
        Check.bounds("told", what -> two().told(what), 0, 12, QuietOffice.OUTSIDE);
        Check.bounds("told, no office", what -> new QuietOffice().told(what), 0, 12, QuietOffice.OUTSIDE);
        QuietOffice x = two();
        x.day(4);
        x.lapse(3, true);
        x.lapse(0, true);
        x.witness(1);
        x.ledger(1);
        x.ledger(1);
        x.write(1);
        x.write(1);
        x.write(1);
        x.feed('o');
        // Paid: 25 on day 2, 40 on day 3, 25 on day 4; 60 more are due then, and 10 are there.
        int[] due = {2, 4, 1, 4, 0, 100, 0, 4, 9, 1, 2, 3, 4};
        for (int what = 0; what < due.length; what++) {
            Check.due("told(" + what + ")", x.told(what), due[what]);
        }
    }

    /** Promise 6: "what = 0 to 3 ODDS of KINDS, 4 HABIT, 5 EVENTS told (a SET). UNKNOWN, OUTSIDE." */
    private static void lifeHasBounds() {
        for (int lives = 1; lives <= 4; lives++) {
            QuietOffice x = Check.officeOf("o1;" + "l1 2 3 4 1;".repeat(lives));
            for (int l = -1; l <= 5; l++) {
                Check.due(lives + " lives, life(" + l + ", 0)", x.life(l, 0), l >= 0 && l < lives ? 2 : QuietOffice.UNKNOWN);
                Check.due("unknown first", x.life(l, 6), l >= 0 && l < lives ? QuietOffice.OUTSIDE : QuietOffice.UNKNOWN);
            }
            Check.due("far below", x.life(Integer.MIN_VALUE, 0), QuietOffice.UNKNOWN);
            Check.due("far above", x.life(Integer.MAX_VALUE, 0), QuietOffice.UNKNOWN);
        }
        Check.bounds("life, what", what -> two().life(1, what), 0, 5, QuietOffice.OUTSIDE);
    }

    /** Promise 7: "what = 0 LIFE, 1 KINDS, 2 D, 3 A, 4 PREMIUM, 5 QUIET. UNKNOWN, OUTSIDE." */
    private static void policyHasBounds() {
        for (int policies = 0; policies <= 6; policies++) {
            QuietOffice x = Check.officeOf("o1;l1 2 3 4 1;" + "p0 7 8 9 10;".repeat(policies));
            for (int p = -1; p <= 7; p++) {
                boolean isThere = p >= 0 && p < policies;
                Check.due(policies + " policies, policy(" + p + ", 3)", x.policy(p, 3), isThere ? 9 : QuietOffice.UNKNOWN);
                Check.due("unknown first", x.policy(p, -1), isThere ? QuietOffice.OUTSIDE : QuietOffice.UNKNOWN);
            }
            Check.due("far below", x.policy(Integer.MIN_VALUE, 0), QuietOffice.UNKNOWN);
            Check.due("far above", x.policy(Integer.MAX_VALUE, 0), QuietOffice.UNKNOWN);
        }
        Check.bounds("policy, what", what -> two().policy(3, what), 0, 5, QuietOffice.OUTSIDE);
    }

    /** Section 2: "Q, by HABIT 1 twice, by 2 four times of it (1000 at most)"; the most that a text tells is 800. */
    private static void oddsGrowByHabit() {
        for (int q : new int[] {0, 1, 199, 200}) {
            QuietOffice x = Check.officeOf("o1;l" + q + " 0 0 " + q + " 0;");
            for (int h = 0; h <= 2; h++) {
                x.habit(0, h);
                int times = h == 0 ? 1 : h == 1 ? 2 : 4;
                Check.due("odds of kind 0, habit " + h, x.life(0, 0), q * times);
                Check.due("odds of kind 1, habit " + h, x.life(0, 1), 0);
                Check.due("odds of kind 3, habit " + h, x.life(0, 3), q * times);
            }
        }
    }

    /** Promise 8: "EVENTS of a LIFE for the next DAY (0 .. 15): what was told. UNKNOWN, OUTSIDE." */
    private static void eventHasBounds() {
        Check.bounds("event, set", set -> two().event(1, set), 0, 15, QuietOffice.OUTSIDE);
        Check.bounds("event, life", l -> two().event(l, 15), 0, 1, QuietOffice.UNKNOWN);
        Check.due("unknown first", two().event(2, 16), QuietOffice.UNKNOWN);
        QuietOffice x = Check.officeOf("o1;" + "l1 1 1 1 0;".repeat(4));
        for (int l = 0; l < 4; l++) {
            Check.due("told before", x.event(l, 15 - l), 0);
        }
        for (int l = 0; l < 4; l++) {
            Check.due("each has its own", x.life(l, 5), 15 - l);
            Check.due("what was told", x.event(l, 0), 15 - l);
        }
    }

    /** Section 2: "EVENTS told for a LIFE befall it on the next DAY (then they are forgotten)"; promise 9: on the first. */
    private static void eventsAreForTheNextDay() {
        for (int l = 0; l < 4; l++) {
            for (int k = 0; k < 4; k++) {
                QuietOffice x = Check.officeOf("o0;" + "l0 0 0 0 0;".repeat(4) + "p" + l + " " + (1 << k) + " 30 0 1;");
                for (int other = 0; other < 4; other++) {
                    x.event(other, other == l ? 15 & ~(1 << k) : 15);
                }
                Check.due("others' events and kinds do not stir it", x.day(1), 0);
                x.event(l, 1 << k);
                Check.due("its own does", x.day(1), 1);
                Check.due("it is forgotten", x.life(l, 5), 0);
                Check.due("once", x.day(1), 1);
                x.event(l, 1 << k);
                Check.due("on the first of many", x.day(5), 2);
                Check.due("quiet since", x.policy(0, 5), 4);
            }
        }
    }

    /** Promises 9, 10: "n DAYS (1 .. 99 ..): FUNDS. OUTSIDE". */
    private static void dayAndDriftHaveBounds() {
        Check.bounds("day", n -> two().day(n), 1, 99, QuietOffice.OUTSIDE);
        Check.bounds("drift", n -> two().drift(n), 1, 99, QuietOffice.OUTSIDE);
        for (int n : new int[] {1, 2, 98, 99}) {
            QuietOffice x = two();
            Check.due("day, funds", x.day(n), x.told(4));
            Check.due("day, the day", x.told(3), n);
            Check.due("drift, funds", x.drift(n), x.told(4));
            Check.due("drift, the day", x.told(3), 2 * n);
        }
    }

    /** Section 2: "else QUIET is 1 more; when it is D: it pays A of FUNDS, QUIET is 0". */
    private static void quietIsPaidAtItsDays() {
        for (int d : new int[] {1, 2, 29, 30}) {
            QuietOffice x = Check.officeOf("o999;l1 1 1 1 0;p0 1 " + d + " 100 0;");
            if (d > 1) {
                Check.due(d + " days, one less", x.day(d - 1), 999);
            }
            Check.due("quiet ahead", x.policy(0, 5), d - 1);
            Check.due("paid at " + d, x.day(1), 899);
            Check.due("quiet is 0", x.policy(0, 5), 0);
            Check.due("a day behind", x.day(1), d == 1 ? 799 : 899);
            Check.due("quiet a day behind", x.policy(0, 5), d == 1 ? 0 : 1);
        }
    }

    /** Section 2: "since it began, paid, or such an event (0 at first)". */
    private static void quietBeginsAnew() {
        QuietOffice x = Check.officeOf("o999;l1 1 1 1 0;p0 5 3 100 7;");
        Check.due("at first", x.policy(0, 5), 0);
        x.day(2);
        x.event(0, 10);
        Check.due("an event of other kinds lets it pay", x.day(1), 899);
        x.day(2);
        x.event(0, 4);
        Check.due("an event on the day that it would pay", x.day(1), 906);
        Check.due("quiet is 0", x.policy(0, 5), 0);
        Check.due("two days on", x.day(2), 906);
        Check.due("three days on", x.day(1), 806);
        x.event(0, 5);
        Check.due("two of its kinds are one premium", x.day(1), 813);
        Check.due("due", x.told(6), 14);
        Check.due("paid", x.told(5), 200);
    }

    /** Section 2: "If FUNDS are less than A: it pays what there is, and that is RUIN .. FUNDS are 0". */
    private static void fundsJustEnoughAreNoRuin() {
        for (int funds = 0; funds <= 3; funds++) {
            QuietOffice x = Check.officeOf("o" + funds + ";l1 1 1 1 0;p0 1 1 2 0;");
            Check.due("funds behind, from " + funds, x.day(1), Math.max(0, funds - 2));
            Check.due("ruin, from " + funds, x.told(7), funds < 2 ? 1 : QuietOffice.NONE);
            Check.due("paid, from " + funds, x.told(5), Math.min(2, funds));
            Check.due("quiet, from " + funds, x.policy(0, 5), 0);
        }
        QuietOffice most = Check.officeOf("o998;l1 1 1 1 0;p0 1 1 999 0;");
        Check.due("one less than the most", most.day(1), 0);
        Check.due("ruin", most.told(7), 1);
        QuietOffice nothing = Check.officeOf("o0;l1 1 1 1 0;p0 1 1 0 0;");
        nothing.day(9);
        Check.due("nothing of nothing is no ruin", nothing.told(7), QuietOffice.NONE);
    }

    /** Section 2: "the first such day is kept; .. days go on"; promise 5: "(counted from 1; NONE)". */
    private static void theFirstRuinIsKept() {
        QuietOffice x = Check.officeOf("o3;l1 1 1 1 0;p0 1 2 2 1;");
        x.day(3);
        Check.due("not yet", x.told(7), QuietOffice.NONE);
        x.day(1);
        Check.due("the fourth day", x.told(7), 4);
        x.fund(1);
        Check.due("a ruin later", x.day(2), 0);
        Check.due("the first is kept", x.told(7), 4);
        Check.due("days go on", x.told(3), 6);
        x.undo(2);
        Check.due("still", x.told(7), 4);
        x.undo(1);
        Check.due("it is undone", x.told(7), QuietOffice.NONE);
    }

    /** Section 2: "POLICY by POLICY". */
    private static void policyByPolicy() {
        QuietOffice x = Check.officeOf("o0;l0 0 0 0 0;p0 1 1 5 5;p0 2 1 5 5;");
        x.event(0, 1);
        Check.due("the premium comes first and is paid", x.day(1), 0);
        Check.due("no ruin", x.told(7), QuietOffice.NONE);
        x.event(0, 2);
        Check.due("the payment comes first", x.day(1), 5);
        Check.due("ruin", x.told(7), 2);
        Check.due("paid", x.told(5), 5);
    }

    /** An office with just so much, told from a lot of premiums. */
    private static QuietOffice withFunds(int funds) {
        QuietOffice x = Check.officeOf("o999;l200 200 200 200 2;l0 0 0 0 0;" + "p0 15 30 0 999;".repeat(3)
                + "p1 1 30 0 1;p1 2 30 0 2;p1 4 1 3 0;");
        x.lapse(5, true);
        x.drift(99);
        x.drift(99);
        x.drift(99);
        for (int i = 0; i < 99 && x.told(4) < funds - 2997; i++) {
            x.drift(Math.min(99, (funds - x.told(4)) / 2997));
        }
        for (int i = 0; i < 9 && x.told(4) < funds; i++) {
            x.fund(Math.min(999, funds - x.told(4)));
        }
        x.lapse(0, true);
        x.lapse(1, true);
        x.lapse(2, true);
        Check.due("funds to begin with", x.told(4), funds);
        return x;
    }

    /** Section 2: "FUNDS are 999999 at most." */
    private static void fundsAre999999AtMost() {
        for (int funds = 999997; funds <= 999999; funds++) {
            for (int more = 0; more <= 3; more++) {
                Check.due("fund(" + more + ") of " + funds, withFunds(funds).fund(more), Math.min(999999, funds + more));
            }
            for (int kinds = 0; kinds <= 3; kinds++) {
                QuietOffice x = withFunds(funds);
                int due = x.told(6);
                x.event(1, kinds);
                Check.due("premiums " + kinds + " to " + funds, x.day(1), Math.min(999999, funds + kinds));
                Check.due("due has no such bound", x.told(6), due + kinds);
            }
        }
        Check.due("by the most", withFunds(999999).fund(999), 999999);
        Check.due("from below by the most", withFunds(999001).fund(999), 999999);
        Check.due("just below by the most", withFunds(999000).fund(999), 999999);
        Check.due("one less", withFunds(998999).fund(999), 999998);
        QuietOffice x = withFunds(999999);
        x.lapse(5, false);
        x.event(1, 3);
        Check.due("what was cut cannot be paid later that day", x.day(1), 999996);
    }

    /** Promise 11: "FUNDS are n more (0 .. 999): FUNDS. OUTSIDE." */
    private static void fundHasBounds() {
        Check.bounds("fund", n -> two().fund(n), 0, 999, QuietOffice.OUTSIDE);
        for (int n : new int[] {0, 1, 998, 999}) {
            QuietOffice x = two();
            Check.due("fund(" + n + ")", x.fund(n), 100 + n);
            Check.due("told(4)", x.told(4), 100 + n);
            Check.due("it is no premium", x.told(6), 0);
        }
    }

    /** Promise 12: "A HABIT (0 .. 2): what it was. UNKNOWN, OUTSIDE." */
    private static void habitHasBounds() {
        Check.bounds("habit, h", h -> two().habit(0, h), 0, 2, QuietOffice.OUTSIDE);
        Check.bounds("habit, life", l -> two().habit(l, 2), 0, 1, QuietOffice.UNKNOWN);
        Check.due("unknown first", two().habit(2, 3), QuietOffice.UNKNOWN);
        QuietOffice x = two();
        Check.due("what it was", x.habit(1, 0), 1);
        Check.due("then", x.habit(1, 2), 0);
        Check.due("then again", x.habit(1, 2), 2);
        Check.due("the other", x.habit(0, 0), 0);
    }

    /** Promise 13: "A POLICY LAPSES, or goes on: 1 it had LAPSED, 0 not. UNKNOWN." */
    private static void lapseHasBounds() {
        Check.bounds("lapse", p -> two().lapse(p, true), 0, 3, QuietOffice.UNKNOWN);
        Check.bounds("going on", p -> two().lapse(p, false), 0, 3, QuietOffice.UNKNOWN);
        for (int p = 0; p < 4; p++) {
            QuietOffice x = two();
            Check.due("goes on at first", x.lapse(p, false), 0);
            Check.due("still", x.lapse(p, true), 0);
            Check.due("a set", x.told(8), 1 << p);
            Check.due("had lapsed", x.lapse(p, true), 1);
            Check.due("the same set", x.told(8), 1 << p);
            Check.due("had lapsed, goes on", x.lapse(p, false), 1);
            Check.due("no set", x.told(8), 0);
        }
    }

    /** Section 2: "A POLICY that LAPSED does nothing." */
    private static void whatLapsedDoesNothing() {
        QuietOffice x = Check.officeOf("o50;l1 1 1 1 0;p0 1 3 10 4;");
        x.day(2);
        x.lapse(0, true);
        Check.due("it does not pay", x.day(1), 50);
        Check.due("its quiet stays", x.policy(0, 5), 2);
        x.event(0, 1);
        Check.due("no premium comes", x.day(1), 50);
        Check.due("its quiet stays still", x.policy(0, 5), 2);
        Check.due("events are forgotten all the same", x.life(0, 5), 0);
        x.lapse(0, false);
        Check.due("it goes on from there", x.day(1), 40);
        Check.due("paid", x.told(5), 10);
        Check.due("due", x.told(6), 0);
    }

    private static BigInteger drawn(BigInteger seed) {
        return seed.multiply(BigInteger.valueOf(1103515245L)).add(BigInteger.valueOf(12345L))
                .mod(BigInteger.ONE.shiftLeft(31));
    }

    /** The DRAW of 1000 that comes as the i-th (from 0 on) from a seed. */
    private static int draw(int seed, int i) {
        BigInteger at = BigInteger.valueOf(seed);
        for (int j = 0; j <= i; j++) {
            at = drawn(at);
        }
        return at.divide(BigInteger.valueOf(65536)).mod(BigInteger.valueOf(1000)).intValue();
    }

    private static int seedWithDraw(int i, int draw) {
        int seed = 0;
        while (draw(seed, i) != draw) {
            seed++;
        }
        return seed;
    }

    /** Section 3: "KIND by KIND a DRAW of 1000: below its ODDS it befalls it". */
    private static void aDrawBelowItsOddsBefalls() {
        for (int draw : new int[] {0, 1, 2, 99, 199}) {
            for (int k = 0; k < 4; k++) {
                int seed = seedWithDraw(k, draw);
                for (int q = Math.max(0, draw - 1); q <= Math.min(200, draw + 1); q++) {
                    StringBuilder life = new StringBuilder("l");
                    for (int other = 0; other < 4; other++) {
                        life.append(other == k ? q : 0).append(" ");
                    }
                    QuietOffice x = Check.officeOf("o0;" + life + "0;p0 15 30 0 1;");
                    x.seed(seed);
                    Check.due("draw " + draw + ", odds " + q + ", kind " + k, x.drift(1), draw < q ? 1 : 0);
                }
            }
        }
        // The greatest odds, 800, by habit 2: 799, 800, 801.
        for (int draw = 799; draw <= 801; draw++) {
            QuietOffice x = Check.officeOf("o0;l0 200 0 0 2;p0 15 30 0 1;");
            x.seed(seedWithDraw(1, draw));
            Check.due("draw " + draw + ", odds 800", x.drift(1), draw < 800 ? 1 : 0);
        }
        QuietOffice last = Check.officeOf("o0;l0 200 0 0 2;p0 15 30 0 1;");
        last.seed(seedWithDraw(1, 999));
        Check.due("draw 999", last.drift(1), 0);
    }

    /** Section 3: "n days: LIFE by LIFE, KIND by KIND a DRAW". */
    private static void drawsGoLifeByLifeKindByKind() {
        QuietOffice x = Check.officeOf("o0;" + "l200 200 200 200 1;".repeat(4) + "p0 15 30 0 0;");
        BigInteger seed = BigInteger.ZERO;
        for (int i = 0; i < 2 * 4 * 4; i++) {
            seed = drawn(seed);
        }
        x.drift(2);
        Check.due("16 draws a day of four lives", x.seed(0), seed.intValue());
        for (int l = 0; l < 4; l++) {
            for (int k = 0; k < 4; k++) {
                QuietOffice y = Check.officeOf("o0;" + "l200 200 200 200 1;".repeat(4) + "p" + l + " " + (1 << k) + " 30 0 1;");
                int due = draw(0, 4 * l + k) < 400 ? 1 : 0;
                Check.due("life " + l + ", kind " + k, y.drift(1), due);
                due += draw(0, 16 + 4 * l + k) < 400 ? 1 : 0;
                Check.due("life " + l + ", kind " + k + ", a day on", y.drift(1), due);
            }
        }
    }

    /** Section 3: "it becomes it times 1103515245 and 12345, left over by 2 to the 31". */
    private static void theSeedIsLeftOverBy2To31() {
        for (int from : new int[] {0, 1, 2, 12345, 1 << 30, 2147483646, 2147483647}) {
            QuietOffice x = Check.officeOf("o0;l200 200 200 200 2;p0 8 30 0 1;");
            x.seed(from);
            BigInteger seed = BigInteger.valueOf(from);
            int due = 0;
            for (int i = 0; i < 4 * 99; i++) {
                seed = drawn(seed);
                int draw = seed.divide(BigInteger.valueOf(65536)).mod(BigInteger.valueOf(1000)).intValue();
                due += i % 4 == 3 && draw < 800 ? 1 : 0;
            }
            Check.due("99 days from " + from, x.drift(99), due);
            Check.due("seed from " + from, x.seed(0), seed.intValue());
        }
    }

    /** Section 3: "it befalls it (and what was told)". */
    private static void drawnComesToWhatWasTold() {
        int seed = seedWithDraw(0, 0);
        String text = "o0;l1 0 0 0 0;p0 1 30 0 1;p0 2 30 0 10;";
        QuietOffice x = Check.officeOf(text);
        x.seed(seed);
        x.event(0, 2);
        Check.due("both", x.drift(1), 11);
        Check.due("what was told is forgotten", x.life(0, 5), 0);
        QuietOffice y = Check.officeOf(text);
        y.seed(seed);
        Check.due("drawn alone", y.drift(1), 1);
        QuietOffice z = Check.officeOf(text);
        z.seed(seed);
        z.event(0, 2);
        Check.due("told alone", z.day(1), 10);
        Check.due("a told day draws nothing", z.seed(0), seed);
    }

    /** Promise 14: "The n latest DAYS (1 .. 30) are undone: the day. OUTSIDE, NOT: not so many." */
    private static void undoHasBounds() {
        Check.bounds("undo", n -> {
            QuietOffice x = two();
            x.day(40);
            return x.undo(n);
        }, 1, 30, QuietOffice.OUTSIDE);
        for (int days = 1; days <= 30; days++) {
            for (int n = Math.max(1, days - 1); n <= Math.min(30, days + 1); n++) {
                QuietOffice x = two();
                x.day(days);
                Check.due(days + " days, undo(" + n + ")", x.undo(n), n <= days ? days - n : QuietOffice.NOT);
                Check.due("the day then", x.told(3), n <= days ? days - n : days);
                Check.due("can be undone then", x.told(12), n <= days ? days - n : days);
            }
        }
        Check.due("none, undo(1)", two().undo(1), QuietOffice.NOT);
        Check.due("none, undo(30)", two().undo(30), QuietOffice.NOT);
        Check.due("outside first", two().undo(31), QuietOffice.OUTSIDE);
    }

    /** Section 3: "(30 at most are kept)"; promise 5: "12 DAYS that can be undone". */
    private static void thirtyDaysAreKept() {
        for (int days = 28; days <= 62; days++) {
            QuietOffice x = two();
            x.day(days);
            Check.due(days + " days, told(12)", x.told(12), Math.min(30, days));
            if (days >= 30) {
                Check.due(days + " days, undo(30)", x.undo(30), days - 30);
                Check.due("no more, told(12)", x.told(12), 0);
                Check.due("no more", x.undo(1), QuietOffice.NOT);
            }
        }
        QuietOffice y = two();
        y.drift(99);
        Check.due("drawn days are kept, too", y.undo(30), 69);
    }

    /** The same, where the rows that keep the days come round: each day undone is as it was. */
    private static void undoneDayByDay() {
        for (int ahead = 0; ahead <= 61; ahead += 7) {
            QuietOffice x = Check.officeOf("o0;l0 0 0 0 0;p0 1 7 3 0;");
            int[] funds = new int[200];
            int[] quiet = new int[200];
            for (int i = 0; i < ahead + 35; i++) {
                x.fund(i + 1);
                x.day(1);
                funds[i + 1] = x.told(4);
                quiet[i + 1] = x.policy(0, 5);
            }
            int now = ahead + 35;
            for (int n : new int[] {1, 2, 5, 1, 21}) {
                now -= n;
                Check.due("undo(" + n + ")", x.undo(n), now);
                // What was funded between that day and the next was done ahead of the day that is undone.
                Check.due("funds of day " + now, x.told(4), funds[now] + now + 1);
                Check.due("quiet of day " + now, x.policy(0, 5), quiet[now]);
            }
            Check.due("none is left", x.undo(1), QuietOffice.NOT);
        }
    }

    /** Section 3: "with all that was done since; THE SEED stays". */
    private static void undoneWithAllDoneSince() {
        QuietOffice x = two();
        x.fund(11);
        x.habit(0, 1);
        x.lapse(1, true);
        x.event(0, 8);
        x.drift(1);
        x.fund(22);
        x.habit(0, 2);
        x.habit(1, 0);
        x.lapse(1, false);
        x.lapse(0, true);
        x.event(0, 1);
        x.event(1, 2);
        int seed = x.seed(99);
        Check.so("it was drawn", seed != 0);
        Check.due("undo", x.undo(1), 0);
        Check.due("funds", x.told(4), 111);
        Check.due("due", x.told(6), 0);
        Check.due("habit", x.life(0, 4), 1);
        Check.due("habit of the other", x.life(1, 4), 1);
        Check.due("lapsed", x.told(8), 2);
        Check.due("events told ahead of the day are told again", x.life(0, 5), 8);
        Check.due("events told since are not", x.life(1, 5), 0);
        Check.due("seed", x.seed(0), 99);
        Check.due("nothing more", x.undo(1), QuietOffice.NOT);
    }

    /** Promises 9, 10: "FULL: the day is above 90000 (as it is called)"; so late a day needs more than 512 calls. */
    private static void theDayIsAbove90000() {
        for (int late = 89999; late <= 90002; late++) {
            for (int n : new int[] {1, 99}) {
                QuietOffice x = atDay(late);
                QuietOffice y = atDay(late);
                boolean isFull = late > 90000;
                Check.due("day(" + n + ") on day " + late, x.day(n), isFull ? QuietOffice.FULL : 5);
                Check.due("drift(" + n + ") on day " + late, y.drift(n), isFull ? QuietOffice.FULL : 5);
                Check.due("the day then", x.told(3), isFull ? late : late + n);
                Check.due("the day then, drawn", y.told(3), isFull ? late : late + n);
            }
        }
        Check.due("outside first", atDay(90001).day(0), QuietOffice.OUTSIDE);
        Check.due("outside first, drawn", atDay(90001).drift(100), QuietOffice.OUTSIDE);
    }

    /** What it is: "An object is used for at most 512 calls after it has been made". */
    private static void all512CallsAnswer() {
        QuietOffice x = new QuietOffice();
        Check.feedText(x, "o5;");
        x.office();
        for (int call = 5; call <= 510; call++) {
            Check.due("call " + call, call % 2 == 0 ? x.day(99) : x.drift(99), 5);
        }
        Check.due("call 511", x.told(3), 506 * 99);
        Check.due("call 512", x.undo(30), 506 * 99 - 30);
    }

    static QuietOffice atDay(int late) {
        QuietOffice x = Check.officeOf("o5;");
        for (int i = 0; i < 909; i++) {
            x.day(99);
        }
        // 909 times 99 is 89991.
        x.day(late - 89991 > 9 ? 9 : late - 89991);
        if (late > 90000) {
            x.day(late - 90000);
        }
        Check.due("the day", x.told(3), late);
        return x;
    }
}
