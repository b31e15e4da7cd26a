/** Promises 15 to 17, 21 and 23: what is counted by odds. */
public final class OddsTest {
    public static void main(String[] args) {
        calms();
        fairs();
        paid();
        paidByAnotherWay();
        chosen();
        struckOut();
        wrongInputs();
        Check.end();
    }

    private static void calms() {
        QuietOffice x = Check.officeOf("o1;l3 7 11 13 0;p0 15 3 5 5;p0 10 3 5 5;");
        Check.due("no days", x.calm(0, 0), 1000000000);
        Check.due("one day", x.calm(1, 1), 980091000);
        long calm = 1000000000L;
        int[] odds = {3, 7, 11, 13};
        for (int k = 0; k < 4; k++) {
            for (int i = 0; i < 99; i++) {
                calm = calm * (1000 - odds[k]) / 1000;
            }
        }
        Check.due("99 days", x.calm(0, 99), (int) calm);
        x.habit(0, 2);
        Check.due("by habit", x.calm(1, 1), 921456000);
        x.day(2);
        x.event(0, 15);
        x.lapse(1, true);
        Check.due("events, quiet, lapse not looked at", x.calm(1, 1), 921456000);
    }

    private static void fairs() {
        QuietOffice x = Check.officeOf("o1;l100 0 1 0 0;p0 1 1 9 0;p0 1 1 10 0;p0 2 5 7 0;p0 2 5 0 0;p0 4 1 999 0;p0 1 1 0 9;");
        Check.due("just as much", x.fair(0), 81);
        Check.due("just as much again", x.fair(1), 90);
        Check.due("no premium is enough", x.fair(2), QuietOffice.NONE);
        Check.due("nothing to pay, never stirred", x.fair(3), 0);
        Check.due("rare", x.fair(4), 998001);
        Check.due("nothing to pay", x.fair(5), 0);
        x.lapse(1, true);
        Check.due("lapsed", x.fair(1), 90);
        x.habit(0, 1);
        Check.due("by habit", x.fair(0), 36);
        QuietOffice y = Check.officeOf("o1;l100 0 0 0 0;p0 1 2 10 0;");
        Check.due("810/190, up", y.fair(0), 43);
    }

    private static void paid() {
        QuietOffice x = Check.officeOf("o1;l100 0 0 0 0;p0 1 3 9 0;p0 1 1 9 0;p0 2 3 9 0;");
        Check.due("too soon", x.pays(0, 2), 0);
        Check.due("just", x.pays(0, 3), 729000000);
        Check.due("a day more", x.pays(0, 4), 801900000);
        Check.due("one day", x.pays(1, 1), 900000000);
        Check.due("surely", x.pays(2, 3), 1000000000);
        x.day(2);
        Check.due("from quiet 2", x.pays(0, 1), 900000000);
        Check.due("from quiet 2, days", x.pays(0, 3), 900000000);
        Check.due("from quiet 2, days more", x.pays(0, 4), 972900000);
        x.lapse(0, true);
        Check.due("lapsed", x.pays(0, 4), QuietOffice.NOT);
        Check.due("outside first", x.pays(0, 61), QuietOffice.OUTSIDE);
        x.lapse(0, false);
        Check.due("goes on", x.pays(0, 1), 900000000);
    }

    private static void paidByAnotherWay() {
        QuietOffice x = Check.officeOf("o1;l137 53 0 0 0;p0 3 7 9 0;");
        x.day(4);
        long oneDay = x.calm(0, 1);
        long[] at = new long[8];
        at[4] = 1000000000L;
        for (int n = 1; n <= 60; n++) {
            long[] next = new long[8];
            for (int q = 0; q < 7; q++) {
                long goes = at[q] * oneDay / 1000000000L;
                next[q + 1] += goes;
                next[0] += at[q] - goes;
            }
            next[7] += at[7];
            at = next;
            Check.due("pays(0, " + n + ")", x.pays(0, n), (int) at[7]);
        }
    }

    private static void chosen() {
        QuietOffice x = Check.officeOf("o1;l100 0 0 0 2;l100 0 0 0 0;l10 0 0 0 0;l200 200 0 0 0;"
                + "p0 1 1 69 0;p0 1 1 1 0;p2 1 1 999 0;p3 3 1 20 0;p0 1 1 200 0;");
        // By habits 0, 1, 2 each tenth less of 270 gives 243000, 216000, 162000.
        Check.due("much to lose", x.choose(0), 0);
        Check.due("nothing to lose", x.choose(1), 2);
        // 989010 against 979020 and 7000, 959040 and 16000.
        Check.due("a little", x.choose(2), 0);
        // 12800 against 7200 and 7000, 800 and 16000.
        Check.due("wild", x.choose(3), 2);
        x.lapse(4, true);
        // 70: 63000, 56000 and 7000, 42000 and 16000: of like ones the least.
        Check.due("like ones", x.choose(0), 0);
        x.lapse(1, true);
        // 69: 62100, 55200 and 7000, 41400 and 16000.
        Check.due("the second", x.choose(0), 1);
        // 40500, 36000 and 7000, 27000 and 16000.
        QuietOffice like = Check.officeOf("o1;l100 0 0 0 0;p0 1 1 45 0;");
        Check.due("the second of like ones", like.choose(0), 1);
        // 6999 less for 7000.
        QuietOffice just = Check.officeOf("o1;l3 0 0 0 0;p0 1 1 999 0;p0 1 1 999 0;p0 1 1 335 0;");
        Check.due("just better", just.choose(0), 1);
        QuietOffice y = Check.officeOf("o1;l1 0 0 0 0;" + "p0 1 1 500 0;p0 1 1 500 0;p0 1 1 999 0;p0 1 1 999 0;p0 1 1 999 0;p0 1 1 999 0;");
        // 4996 less by each of a thousand: 7000 for one, 16000 for three of these.
        Check.due("many", y.choose(0), 1);
    }

    private static void struckOut() {
        QuietOffice x = Check.officeOf("o1;l100 10 0 1 0;p0 3 2 1 1;p0 2 3 1 1;p0 1 4 1 1;p0 9 2 1 1;p0 1 5 1 1;");
        Check.due("calm", x.struck(0, 0), 1000000000);
        Check.due("which", x.struck(0, 1), 2);
        Check.due("how many", x.struck(0, 2), 2);
        Check.due("kind 1 calm", x.struck(1, 0), 1000000000);
        Check.due("kind 1 which", x.struck(1, 1), 1);
        Check.due("kind 1 how many", x.struck(1, 2), 1);
        Check.due("kind 2 calm", x.struck(2, 0), 970299000);
        Check.due("kind 2 which", x.struck(2, 1), 1);
        Check.due("kind 2 how many", x.struck(2, 2), 0);
        x.lapse(2, true);
        Check.due("lapsed which", x.struck(0, 1), 4);
        Check.due("lapsed how many", x.struck(0, 2), 1);
        x.lapse(4, true);
        x.habit(0, 2);
        Check.due("by habit", x.struck(0, 0), 992016000);
        Check.due("by habit which", x.struck(0, 1), 3);
        x.lapse(0, true);
        x.lapse(1, true);
        x.lapse(3, true);
        Check.due("all lapsed", x.struck(0, 0), QuietOffice.NONE);
        Check.due("all lapsed, which", x.struck(0, 1), QuietOffice.NONE);
        Check.due("all lapsed, how many", x.struck(0, 2), 0);
        QuietOffice y = Check.officeOf("o1;l200 0 0 0 2;p0 1 30 1 1;");
        Check.due("calm of 0 is one too", y.struck(1, 1), 0);
        Check.due("calm of 0", y.struck(1, 0), 0);
        QuietOffice last = Check.officeOf("o1;l5 0 0 100 0;p0 8 30 1 1;p0 9 2 1 1;");
        Check.due("kind 3 calm", last.struck(3, 0), 1000000000);
        Check.due("kind 3 which", last.struck(3, 1), 0);
        Check.due("kind 3 how many", last.struck(3, 2), 1);
        last.lapse(0, true);
        Check.due("kind 3 calm of the other", last.struck(3, 0), 990025000);
        QuietOffice z = new QuietOffice();
        Check.due("no office", z.struck(0, 0), QuietOffice.NONE);
        Check.due("no office, how many", z.struck(0, 2), 0);
    }

    private static void wrongInputs() {
        QuietOffice x = Check.officeOf(Check.TWO_LIVES);
        Check.due("calm(4, 100)", x.calm(4, 100), QuietOffice.UNKNOWN);
        Check.due("calm(-1, 1)", x.calm(-1, 1), QuietOffice.UNKNOWN);
        Check.due("calm(0, 100)", x.calm(0, 100), QuietOffice.OUTSIDE);
        Check.due("calm(0, -1)", x.calm(0, -1), QuietOffice.OUTSIDE);
        Check.due("fair(4)", x.fair(4), QuietOffice.UNKNOWN);
        Check.due("fair(-1)", x.fair(-1), QuietOffice.UNKNOWN);
        Check.due("pays(4, 0)", x.pays(4, 0), QuietOffice.UNKNOWN);
        Check.due("pays(-1, 1)", x.pays(-1, 1), QuietOffice.UNKNOWN);
        Check.due("pays(0, 0)", x.pays(0, 0), QuietOffice.OUTSIDE);
        Check.due("choose(2)", x.choose(2), QuietOffice.UNKNOWN);
        Check.due("choose(-1)", x.choose(-1), QuietOffice.UNKNOWN);
        Check.due("struck(4, 0)", x.struck(4, 0), QuietOffice.OUTSIDE);
        Check.due("struck(-1, 0)", x.struck(-1, 0), QuietOffice.OUTSIDE);
        Check.due("struck(0, 3)", x.struck(0, 3), QuietOffice.OUTSIDE);
        Check.due("struck(0, -1)", x.struck(0, -1), QuietOffice.OUTSIDE);
    }
}
