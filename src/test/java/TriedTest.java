/** Promises 18 to 20 and 22: ruin to come, what is needed, which to keep, fires. */
public final class TriedTest {
    public static void main(String[] args) {
        soonestRuin();
        needed();
        kept();
        keptOfLikeOnes();
        firesLit();
        nothingChanges();
        wrongInputs();
        Check.end();
    }

    private static void soonestRuin() {
        QuietOffice x = Check.officeOf("o998;l1 1 1 1 0;p0 1 1 1 1;");
        Check.due("999 days", x.soonest(), 999);
        x.fund(1);
        Check.due("1000 days are too many", x.soonest(), QuietOffice.NONE);
        x.event(0, 15);
        x.day(99);
        Check.due("from now", x.soonest(), 903);
        x.lapse(0, true);
        Check.due("lapsed", x.soonest(), QuietOffice.NONE);
        QuietOffice y = Check.officeOf("o0;l1 1 1 1 0;p0 1 1 1 0;");
        Check.due("tomorrow", y.soonest(), 1);
        y.day(3);
        Check.due("ruined", y.told(7), 1);
        Check.due("tomorrow again", y.soonest(), 1);
        y.event(0, 15);
        Check.due("events told are not looked at", y.soonest(), 1);
    }

    private static void needed() {
        QuietOffice x = Check.officeOf("o0;l1 1 1 1 0;p0 1 3 10 1;p0 2 5 100 1;p0 1 30 1 0;p0 1 1 0 0;");
        Check.due("2 days", x.needs(2), 0);
        Check.due("3 days", x.needs(3), 10);
        Check.due("15 days", x.needs(15), 350);
        Check.due("99 days", x.needs(99), 330 + 1900 + 3);
        x.fund(1);
        x.day(2);
        Check.due("from quiet 2", x.needs(1), 10);
        Check.due("from quiet 2, 3 days", x.needs(3), 110);
        x.lapse(1, true);
        Check.due("lapsed", x.needs(3), 10);
        QuietOffice y = Check.officeOf("o0;l1 1 1 1 0;p0 1 1 999 1;p0 1 1 999 1;p0 1 1 999 1;p0 1 1 999 1;p0 1 1 999 1;p0 1 1 999 1;");
        Check.due("the most", y.needs(99), 593406);
    }

    private static void kept() {
        QuietOffice x = Check.officeOf("o50;l1 1 1 1 0;p0 1 2 20 6;p0 1 3 15 4;p0 1 4 10 3;p0 1 20 50 9;");
        Check.due("12 days", x.keepWhich(12, 0), 12);
        Check.due("12 days, which", x.keepWhich(12, 1), 12);
        Check.due("60 days", x.keepWhich(60, 0), 0);
        Check.due("60 days, which", x.keepWhich(60, 1), 0);
        Check.due("one day", x.keepWhich(1, 0), 22);
        Check.due("one day, which", x.keepWhich(1, 1), 15);
        x.lapse(3, true);
        Check.due("lapsed", x.keepWhich(1, 1), 7);
        Check.due("lapsed, 3 days", x.keepWhich(3, 0), 13);
        Check.due("lapsed, 4 days", x.keepWhich(4, 0), 9);
        Check.due("lapsed, 4 days, which", x.keepWhich(4, 1), 5);
        x.day(2);
        Check.due("from quiet, 1 day, funds 30", x.keepWhich(1, 1), 7);
        Check.due("from quiet, 2 days", x.keepWhich(2, 1), 5);
    }

    private static void keptOfLikeOnes() {
        QuietOffice x = Check.officeOf("o10;l1 1 1 1 0;p0 1 1 5 4;p0 1 1 5 4;p0 1 1 9 8;p0 1 1 9 8;");
        Check.due("fewer", x.keepWhich(1, 1), 4);
        Check.due("fewer, premiums", x.keepWhich(1, 0), 8);
        QuietOffice y = Check.officeOf("o10;l1 1 1 1 0;p0 1 1 0 0;p0 1 1 10 7;p0 1 1 10 7;");
        Check.due("least; none for no premium", y.keepWhich(1, 1), 2);
        QuietOffice z = new QuietOffice();
        Check.due("no office", z.keepWhich(60, 0), 0);
        Check.due("no office, which", z.keepWhich(60, 1), 0);
    }

    private static void firesLit() {
        QuietOffice x = Check.officeOf("o1;l1 1 1 1 0;l1 1 1 1 0;p0 1 4 0 0;p0 3 6 0 0;p0 4 1 0 0;p1 15 1 0 0;");
        Check.due("99 days", x.fires(0, 0, 99, 0), 24);
        Check.due("the first", x.fires(0, 0, 99, 1), 4);
        Check.due("4 days", x.fires(0, 0, 4, 0), 1);
        Check.due("3 days", x.fires(0, 0, 3, 0), 0);
        Check.due("3 days, no first", x.fires(0, 0, 3, 1), QuietOffice.NONE);
        Check.due("kind 1", x.fires(0, 1, 12, 0), 2);
        Check.due("each day", x.fires(0, 2, 99, 0), 99);
        Check.due("tomorrow", x.fires(0, 2, 99, 1), 1);
        Check.due("no policy has it", x.fires(0, 3, 99, 0), 0);
        Check.due("no policy has it, no first", x.fires(0, 3, 99, 1), QuietOffice.NONE);
        Check.due("another life", x.fires(1, 3, 7, 0), 7);
        x.event(0, 1);
        x.day(1);
        x.event(0, 1);
        x.day(3);
        x.lapse(0, true);
        x.day(1);
        Check.due("from quiet 3 of 6, 2 days", x.fires(0, 0, 2, 1), QuietOffice.NONE);
        Check.due("from quiet 3 of 6, 3 days", x.fires(0, 0, 3, 1), 3);
        Check.due("from quiet 3 of 6, 9 days", x.fires(0, 0, 9, 0), 2);
        x.lapse(0, false);
        x.lapse(1, true);
        Check.due("lapsed ones do not count", x.fires(0, 0, 20, 1), 2);
        Check.due("nor here", x.fires(0, 1, 99, 0), 0);
    }

    private static void nothingChanges() {
        QuietOffice x = Check.officeOf(Check.TWO_LIVES);
        x.event(0, 3);
        x.soonest();
        x.needs(99);
        x.keepWhich(60, 1);
        x.fires(0, 0, 99, 0);
        x.choose(0);
        x.struck(0, 0);
        x.pays(0, 60);
        x.ledger(5);
        x.write(5);
        x.befell(0, 0);
        x.sure(0);
        x.judge();
        int[] due = {2, 4, 0, 0, 100, 0, 0, -1, 0, 0, 1, 1, 0};
        for (int what = 0; what < due.length; what++) {
            Check.due("told(" + what + ") behind trials", x.told(what), due[what]);
        }
        Check.due("events stay told", x.life(0, 5), 3);
        Check.due("quiet", x.policy(2, 5), 0);
    }

    private static void wrongInputs() {
        QuietOffice x = Check.officeOf(Check.TWO_LIVES);
        for (int n : new int[] {-1, 0, 100}) {
            Check.due("needs(" + n + ")", x.needs(n), QuietOffice.OUTSIDE);
            Check.due("fires, n = " + n, x.fires(0, 0, n, 0), QuietOffice.OUTSIDE);
            Check.due("keepWhich, n = " + n, x.keepWhich(n, 0), QuietOffice.OUTSIDE);
        }
        Check.due("keepWhich(61, 0)", x.keepWhich(61, 0), QuietOffice.OUTSIDE);
        Check.due("keepWhich(1, 2)", x.keepWhich(1, 2), QuietOffice.OUTSIDE);
        Check.due("keepWhich(1, -1)", x.keepWhich(1, -1), QuietOffice.OUTSIDE);
        Check.due("fires(2, 9, 1, 0)", x.fires(2, 9, 1, 0), QuietOffice.UNKNOWN);
        Check.due("fires(-1, 0, 1, 0)", x.fires(-1, 0, 1, 0), QuietOffice.UNKNOWN);
        Check.due("fires(0, 4, 1, 0)", x.fires(0, 4, 1, 0), QuietOffice.OUTSIDE);
        Check.due("fires(0, -1, 1, 0)", x.fires(0, -1, 1, 0), QuietOffice.OUTSIDE);
        Check.due("fires(0, 0, 1, 2)", x.fires(0, 0, 1, 2), QuietOffice.OUTSIDE);
        Check.due("fires(0, 0, 1, -1)", x.fires(0, 0, 1, -1), QuietOffice.OUTSIDE);
    }
}
