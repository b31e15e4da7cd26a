/** Section 3 tried in quiet, and promises 18 to 20, 22 at their bounds; each test names the sentence that it holds. */
public final class TriedEdgesTest {
    public static void main(String[] args) {
        soonestIsWithin999Days();
        soonestIsFromNow();
        needsHasBounds();
        needsAreTheLeastFunds();
        needsGrowAtEachPayment();
        keepHasBounds();
        keepWithoutRuin();
        keepTheGreatestPremiums();
        keepFewerThenTheLeast();
        keepNoneThatLapsed();
        firesHasBounds();
        firesBeginWhenNeeded();
        firesComeAgainWhenNeeded();
        firesOfItsKindAndLifeAlone();
        firesStartAsLateAsCanBe();
        Check.end();
    }

    private static QuietOffice two() {
        return Check.officeOf(Check.TWO_LIVES);
    }

    private static int ruinBy(int funds, int days) {
        return Check.officeOf("o" + funds + ";l200 200 200 200 2;p0 15 " + days + " 1 999;").soonest();
    }

    /** Section 3: "in how many days (1 .. 999; 1: tomorrow); NONE". */
    private static void soonestIsWithin999Days() {
        Check.due("tomorrow", ruinBy(0, 1), 1);
        Check.due("the day behind", ruinBy(1, 1), 2);
        Check.due("998 days", ruinBy(997, 1), 998);
        Check.due("999 days", ruinBy(998, 1), 999);
        Check.due("1000 days are not looked at", ruinBy(999, 1), QuietOffice.NONE);
        Check.due("37 times 27 days", ruinBy(36, 27), 999);
        Check.due("40 times 25 days", ruinBy(39, 25), QuietOffice.NONE);
        Check.due("39 times 25 days", ruinBy(38, 25), 975);
        Check.due("no office", new QuietOffice().soonest(), QuietOffice.NONE);
        Check.due("no policies", Check.officeOf("o0;l1 1 1 1 0;").soonest(), QuietOffice.NONE);
        Check.due("nothing to pay", Check.officeOf("o0;l1 1 1 1 0;p0 1 1 0 0;").soonest(), QuietOffice.NONE);
    }

    /** Section 3: "TRIED from now, EVENTS told not looked at", "if nothing befalls anybody". */
    private static void soonestIsFromNow() {
        QuietOffice x = Check.officeOf("o1;l200 200 200 200 2;p0 15 5 2 9;");
        Check.due("five days", x.soonest(), 5);
        x.day(4);
        Check.due("from quiet 4", x.soonest(), 1);
        x.event(0, 15);
        Check.due("events told are not looked at", x.soonest(), 1);
        x.fund(1);
        Check.due("enough for once", x.soonest(), 6);
        x.lapse(0, true);
        Check.due("lapsed", x.soonest(), QuietOffice.NONE);
        x.lapse(0, false);
        x.event(0, 0);
        x.day(6);
        Check.due("a ruin that was", x.told(7), 10);
        Check.due("the next one", x.soonest(), 5);
    }

    /** Promise 19: "NEEDS. OUTSIDE."; section 3: "in n days (1 .. 99) to come". */
    private static void needsHasBounds() {
        Check.bounds("needs", n -> two().needs(n), 1, 99, QuietOffice.OUTSIDE);
        Check.bounds("needs, no office", n -> new QuietOffice().needs(n), 1, 99, QuietOffice.OUTSIDE);
        Check.due("no office", new QuietOffice().needs(99), 0);
        String most = "p0 1 1 999 999;".repeat(6);
        Check.due("the most", Check.officeOf("o0;l1 1 1 1 0;" + most).needs(99), 593406);
    }

    /** Section 3: "the least FUNDS by which there is no RUIN .. without any event". */
    private static void needsAreTheLeastFunds() {
        String policies = "l1 1 1 1 0;p0 1 7 20 99;p0 2 11 30 99;p0 4 30 5 99;";
        for (int n = 1; n <= 99; n++) {
            int needs = Check.officeOf("o0;" + policies).needs(n);
            for (int funds = Math.max(0, needs - 1); funds <= needs + 1; funds++) {
                QuietOffice x = Check.officeOf("o" + funds + ";" + policies);
                Check.due("funds do not matter to it", x.needs(n), needs);
                int left = x.day(n);
                Check.so("ruin in " + n + " days by " + funds, (x.told(7) != QuietOffice.NONE) == (funds < needs));
                Check.due("what is left", left, Math.max(0, funds - needs));
            }
        }
    }

    /** The same, from now on, without what lapsed, events told not looked at. */
    private static void needsGrowAtEachPayment() {
        QuietOffice x = Check.officeOf("o999;l1 1 1 1 0;p0 1 5 10 1;p0 2 4 100 1;");
        Check.due("3 days", x.needs(3), 0);
        Check.due("4 days", x.needs(4), 100);
        Check.due("5 days", x.needs(5), 110);
        x.day(3);
        Check.due("from quiet 3, 1 day", x.needs(1), 100);
        Check.due("from quiet 3, 2 days", x.needs(2), 110);
        Check.due("from quiet 3, 5 days", x.needs(5), 210);
        Check.due("from quiet 3, 6 days", x.needs(6), 210);
        Check.due("from quiet 3, 7 days", x.needs(7), 220);
        x.event(0, 15);
        Check.due("events told", x.needs(2), 110);
        x.lapse(1, true);
        Check.due("lapsed", x.needs(7), 20);
    }

    /** Promise 20: "KEEP: what = 0 PREMIUMS, 1 which. OUTSIDE."; section 3: "in n days (1 .. 60)". */
    private static void keepHasBounds() {
        Check.bounds("keepWhich, n", n -> two().keepWhich(n, 1), 1, 60, QuietOffice.OUTSIDE);
        Check.bounds("keepWhich, what", what -> two().keepWhich(9, what), 0, 1, QuietOffice.OUTSIDE);
        Check.due("no office", new QuietOffice().keepWhich(60, 0), 0);
        Check.due("no office, which", new QuietOffice().keepWhich(60, 1), 0);
    }

    /** Section 3: "by which there is no RUIN". */
    private static void keepWithoutRuin() {
        for (int funds = 29; funds <= 31; funds++) {
            QuietOffice x = Check.officeOf("o" + funds + ";l1 1 1 1 0;p0 1 2 10 5;p0 1 3 20 4;");
            int[] due = {3, 3, funds < 30 ? 1 : 3, 1};
            for (int n = 1; n <= 4; n++) {
                Check.due("funds " + funds + ", " + n + " days", x.keepWhich(n, 1), due[n - 1]);
                Check.due("premiums", x.keepWhich(n, 0), due[n - 1] == 3 ? 9 : 5);
            }
        }
        QuietOffice y = Check.officeOf("o9;l1 1 1 1 0;p0 1 30 10 5;");
        Check.due("29 days", y.keepWhich(29, 1), 1);
        Check.due("30 days", y.keepWhich(30, 1), 0);
        Check.due("30 days, premiums", y.keepWhich(30, 0), 0);
        y.fund(1);
        Check.due("59 days of just enough", y.keepWhich(59, 1), 1);
        Check.due("60 days", y.keepWhich(60, 1), 0);
        y.day(29);
        Check.due("from quiet 29", y.keepWhich(1, 1), 1);
        Check.due("from quiet 29, 31 days", y.keepWhich(31, 1), 0);
        y.event(0, 1);
        Check.due("events told are not looked at", y.keepWhich(31, 1), 0);
    }

    /** Section 3: "with the greatest PREMIUMS together". */
    private static void keepTheGreatestPremiums() {
        for (int premium = 8; premium <= 10; premium++) {
            QuietOffice x = Check.officeOf("o10;l1 1 1 1 0;p0 1 1 5 4;p0 1 1 5 5;p0 1 1 10 " + premium + ";");
            Check.due("two of 9 or one of " + premium, x.keepWhich(1, 1), premium < 9 ? 3 : 4);
            Check.due("premiums", x.keepWhich(1, 0), Math.max(9, premium));
        }
        String six = "p0 1 1 0 999;".repeat(6);
        QuietOffice all = Check.officeOf("o0;l1 1 1 1 0;" + six);
        Check.due("all six", all.keepWhich(60, 1), 63);
        Check.due("the most", all.keepWhich(60, 0), 5994);
    }

    /** Section 3: "of like ones with fewer POLICIES, then the least SET". */
    private static void keepFewerThenTheLeast() {
        QuietOffice x = Check.officeOf("o10;l1 1 1 1 0;p0 1 1 5 4;p0 1 1 5 4;p0 1 1 10 8;p0 1 1 10 8;p0 1 1 0 0;");
        Check.due("one rather than two", x.keepWhich(1, 1), 4);
        x.lapse(2, true);
        Check.due("the other of like ones", x.keepWhich(1, 1), 8);
        x.lapse(3, true);
        Check.due("the two", x.keepWhich(1, 1), 3);
        QuietOffice y = Check.officeOf("o10;l1 1 1 1 0;" + "p0 1 1 5 4;".repeat(4));
        Check.due("the least of six pairs", y.keepWhich(1, 1), 3);
        y.lapse(0, true);
        Check.due("the least of three pairs", y.keepWhich(1, 1), 6);
        Check.due("without premiums none", Check.officeOf("o1;l1 1 1 1 0;p0 1 1 0 0;").keepWhich(1, 1), 0);
    }

    /** Section 3: "a SET of POLICIES that did not LAPSE (all others LAPSING now)". */
    private static void keepNoneThatLapsed() {
        QuietOffice x = Check.officeOf("o10;l1 1 1 1 0;p0 1 1 5 4;p0 1 1 5 3;p0 1 1 5 2;");
        Check.due("of all", x.keepWhich(1, 1), 3);
        x.lapse(0, true);
        Check.due("one lapsed", x.keepWhich(1, 1), 6);
        Check.due("one lapsed, premiums", x.keepWhich(1, 0), 5);
        x.lapse(2, true);
        Check.due("two lapsed", x.keepWhich(1, 1), 2);
        x.lapse(1, true);
        Check.due("all lapsed", x.keepWhich(1, 1), 0);
        Check.due("all lapsed, premiums", x.keepWhich(1, 0), 0);
        Check.due("nothing lapsed by asking", x.told(8), 7);
    }

    /** Promise 22: "FIRES: what = 0 how many, 1 the first; NONE. UNKNOWN, OUTSIDE (kind 0 .. 3)."; "n days (1 .. 99)". */
    private static void firesHasBounds() {
        Check.bounds("fires, life", l -> two().fires(l, 0, 9, 0), 0, 1, QuietOffice.UNKNOWN);
        Check.bounds("fires, kind", kind -> two().fires(0, kind, 9, 0), 0, 3, QuietOffice.OUTSIDE);
        Check.bounds("fires, n", n -> two().fires(0, 0, n, 0), 1, 99, QuietOffice.OUTSIDE);
        Check.bounds("fires, what", what -> two().fires(0, 0, 9, what), 0, 1, QuietOffice.OUTSIDE);
        Check.due("unknown first, kind", two().fires(2, 4, 9, 0), QuietOffice.UNKNOWN);
        Check.due("unknown first, n", two().fires(2, 0, 100, 0), QuietOffice.UNKNOWN);
        Check.due("unknown first, what", two().fires(-1, 0, 9, 2), QuietOffice.UNKNOWN);
        Check.due("no office", new QuietOffice().fires(0, 0, 9, 0), QuietOffice.UNKNOWN);
    }

    /** Section 3: "the fewest days with such an event by which no POLICY on it that has that KIND pays", "NONE (no fire)". */
    private static void firesBeginWhenNeeded() {
        for (int days : new int[] {1, 2, 29, 30}) {
            for (int quiet = 0; quiet < days; quiet++) {
                QuietOffice x = Check.officeOf("o1;l1 1 1 1 0;p0 1 " + days + " 0 0;");
                if (quiet > 0) {
                    x.day(quiet);
                }
                int due = days - quiet;
                if (due > 1) {
                    Check.due("a day too soon, how many", x.fires(0, 0, due - 1, 0), 0);
                    Check.due("a day too soon, the first", x.fires(0, 0, due - 1, 1), QuietOffice.NONE);
                }
                Check.due("just, how many", x.fires(0, 0, due, 0), 1);
                Check.due("just, the first", x.fires(0, 0, due, 1), due);
                Check.due("a day more, how many", x.fires(0, 0, due + 1, 0), days == 1 ? 2 : 1);
                Check.due("a day more, the first", x.fires(0, 0, due + 1, 1), due);
            }
        }
    }

    /** The same: each fire lets all of them begin anew, so the next is due when the shortest would pay. */
    private static void firesComeAgainWhenNeeded() {
        QuietOffice x = Check.officeOf("o1;l1 1 1 1 0;p0 3 7 0 0;p0 1 10 0 0;");
        int[] days = {6, 7, 8, 13, 14, 15, 20, 21, 22, 97, 98, 99};
        int[] many = {0, 1, 1, 1, 2, 2, 2, 3, 3, 13, 14, 14};
        for (int i = 0; i < days.length; i++) {
            Check.due("fires in " + days[i] + " days", x.fires(0, 0, days[i], 0), many[i]);
        }
        x.event(0, 2);
        x.day(1);
        x.day(4);
        // Quiet is 4 of 7, 5 of 10: the first is due in 3 days, the second would be in 5.
        Check.due("in 2 days", x.fires(0, 0, 2, 0), 0);
        Check.due("in 3 days", x.fires(0, 0, 3, 0), 1);
        Check.due("in 9 days", x.fires(0, 0, 9, 0), 1);
        Check.due("in 10 days", x.fires(0, 0, 10, 0), 2);
        x.day(2);
        x.event(0, 2);
        x.day(1);
        // Quiet is 0 of 7, 8 of 10: the longer one is due first.
        Check.due("in 1 day", x.fires(0, 0, 1, 1), QuietOffice.NONE);
        Check.due("in 2 days, first", x.fires(0, 0, 2, 1), 2);
        Check.due("in 8 days", x.fires(0, 0, 8, 0), 1);
        Check.due("in 9 days, again", x.fires(0, 0, 9, 0), 2);
        Check.due("each day", Check.officeOf("o1;l1 1 1 1 0;p0 8 1 0 0;").fires(0, 3, 99, 0), 99);
    }

    /** Section 3: "of a KIND on a LIFE", "no POLICY on it that has that KIND". */
    private static void firesOfItsKindAndLifeAlone() {
        for (int kind = 0; kind < 4; kind++) {
            QuietOffice x = Check.officeOf("o1;l1 1 1 1 0;l1 1 1 1 0;p0 " + (1 << kind) + " 3 0 0;p1 15 1 0 0;");
            for (int other = 0; other < 4; other++) {
                Check.due("kind " + other, x.fires(0, other, 6, 0), other == kind ? 2 : 0);
                Check.due("kind " + other + ", first", x.fires(0, other, 6, 1), other == kind ? 3 : QuietOffice.NONE);
                Check.due("the other life", x.fires(1, other, 6, 0), 6);
            }
            x.lapse(0, true);
            Check.due("lapsed", x.fires(0, kind, 99, 0), 0);
            Check.due("lapsed, first", x.fires(0, kind, 99, 1), QuietOffice.NONE);
            x.event(1, 15);
            Check.due("events told are not looked at", x.fires(1, kind, 6, 1), 1);
        }
    }

    /** Section 3: "the first (1: tomorrow), as late as can be". */
    private static void firesStartAsLateAsCanBe() {
        QuietOffice x = Check.officeOf("o1;l1 1 1 1 0;p0 1 4 0 0;");
        // In 7 days one fire on day 4 or sooner is enough (3 days are left): it could be on any of 4, so on 4.
        Check.due("7 days, how many", x.fires(0, 0, 7, 0), 1);
        Check.due("7 days, the first", x.fires(0, 0, 7, 1), 4);
        // In 8 days days 4 and 8, or sooner ones.
        Check.due("8 days, how many", x.fires(0, 0, 8, 0), 2);
        Check.due("8 days, the first", x.fires(0, 0, 8, 1), 4);
        x.day(3);
        Check.due("tomorrow", x.fires(0, 0, 99, 1), 1);
        Check.due("tomorrow, 4 days", x.fires(0, 0, 4, 0), 1);
        Check.due("tomorrow, 5 days", x.fires(0, 0, 5, 0), 2);
    }
}
