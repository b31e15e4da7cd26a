/** Promises 1 to 7: a new object, the text, its faults, what is told of it. */
public final class OfficeTest {
    private static final String LIFE = "l1 2 3 4 0;";
    private static final String POLICY = "p0 1 1 1 1;";

    public static void main(String[] args) {
        newObject();
        feeding();
        goodTexts();
        faultsOfPlace();
        faultsOfNumbers();
        faultsOfCount();
        faultLeavesAll();
        officeBeginsAnew();
        toldOfLives();
        toldOfPolicies();
        Check.end();
    }

    private static void newObject() {
        QuietOffice x = new QuietOffice();
        for (int what = 0; what <= 12; what++) {
            Check.due("new told(" + what + ")", x.told(what), what == 7 ? QuietOffice.NONE : 0);
        }
        Check.due("told(-1)", x.told(-1), QuietOffice.OUTSIDE);
        Check.due("told(13)", x.told(13), QuietOffice.OUTSIDE);
        Check.due("new fault()", x.fault(), QuietOffice.NONE);
        Check.due("new life", x.life(0, 0), QuietOffice.UNKNOWN);
        Check.due("new policy", x.policy(0, 0), QuietOffice.UNKNOWN);
        Check.due("new soonest", x.soonest(), QuietOffice.NONE);
        Check.due("new judge", x.judge(), QuietOffice.NONE);
        Check.due("new needs", x.needs(99), 0);
        Check.due("new goBack", x.goBack(0), QuietOffice.NOT);
        Check.due("new day", x.day(2), 0);
        Check.due("new told(3)", x.told(3), 2);
        Check.due("new fund", x.fund(7), 7);
    }

    private static void feeding() {
        QuietOffice x = new QuietOffice();
        Check.due("feed(-1)", x.feed(-1), QuietOffice.OUTSIDE);
        Check.due("feed(256)", x.feed(256), QuietOffice.OUTSIDE);
        Check.due("feed(0)", x.feed(0), 1);
        Check.due("feed(255)", x.feed(255), 2);
        for (int i = 3; i <= 250; i++) {
            Check.due("feed", x.feed(' '), i);
        }
        Check.due("feed 251st", x.feed(' '), QuietOffice.FULL);
        Check.due("feed 251st wrong", x.feed(256), QuietOffice.OUTSIDE);
        Check.due("told(2)", x.told(2), 250);
        Check.due("office", x.office(), -11);
        Check.due("fault", x.fault(), 0);
        Check.due("told(2) behind", x.told(2), 0);
    }

    private static void text(String text, int answer, int place) {
        QuietOffice x = new QuietOffice();
        Check.feedText(x, text);
        Check.due("office() of '" + text + "'", x.office(), answer);
        Check.due("fault() of '" + text + "'", x.fault(), place);
    }

    private static void goodTexts() {
        text("", 0, QuietOffice.NONE);
        text("   ", 0, QuietOffice.NONE);
        text("o0;", 0, QuietOffice.NONE);
        text(" o 999 ; ", 0, QuietOffice.NONE);
        text("o007;", 0, QuietOffice.NONE);
        text("o1;l0 0 0 0 0;p0 1 1 0 0;", 1, QuietOffice.NONE);
        text("o1; l 200  200 200 200 2 ; p 0 15 30 999 999 ; ", 1, QuietOffice.NONE);
        text("o1;" + LIFE + LIFE + "p1 1 1 1 1;" + LIFE + LIFE + "p3 1 1 1 1;", 2, QuietOffice.NONE);
        text("o1;" + LIFE + POLICY + POLICY + POLICY + POLICY + POLICY + POLICY, 6, QuietOffice.NONE);
        text("o1;l000 001 02 3 000;", 0, QuietOffice.NONE);
    }

    private static void faultsOfPlace() {
        text("x", -11, 0);
        text("  l1 1 1 1 0;", -11, 2);
        text("p0 1 1 1 1;", -11, 0);
        text(";", -11, 0);
        text("7", -11, 0);
        text("9999", -11, 0);
        text("o", -11, 1);
        text("o1", -11, 2);
        text("o1  ", -11, 4);
        text("o;", -11, 1);
        text("oo", -11, 1);
        text("o1o", -11, 2);
        text("o1 2;", -11, 3);
        text("o1 2000;", -11, 3);
        text("o-1;", -11, 1);
        text("o1;;", -11, 3);
        text("o1;5", -11, 3);
        text("o1;O1;", -11, 3);
        text("o1;l1 2 3 4 0", -11, 13);
        text("o1;l1 2 3 4 0 5;", -11, 14);
        text("o1;l1,2 3 4 0;", -11, 5);
        text("o1;" + LIFE + "p0 1 1 1;", -11, 22);
        text("o1\n;", -11, 2);
        text("o1;x1000", -11, 3);
    }

    private static void faultsOfNumbers() {
        text("o1000;", -12, 1);
        text("o 0001;", -12, 2);
        text("o12345678901234567890;", -12, 1);
        text("o4294967296", -12, 1);
        text("o1000x", -12, 1);
        text("o1;l201 x", -12, 4);
        text("o1;l1 2 3 201 0;", -12, 10);
        text("o1;l1 2 3 4 3;", -12, 12);
        text("o1;p0 1 1 1 1;", -12, 4);
        text("o1;" + LIFE + "p1 1 1 1 1;", -12, 15);
        text("o1;" + LIFE + "p0 0 1 1 1;", -12, 17);
        text("o1;" + LIFE + "p0 16 1 1 1;", -12, 17);
        text("o1;" + LIFE + "p0 1 0 1 1;", -12, 19);
        text("o1;" + LIFE + "p0 1 31 1 1;", -12, 19);
        text("o1;" + LIFE + "p0 1 1 1000 1;", -12, 21);
        text("o1;" + LIFE + "p0 1 1 1 1000;", -12, 23);
        text("o1;" + LIFE + "p1 1 1 1 1;" + LIFE, -12, 15);
    }

    private static void faultsOfCount() {
        text("o1;o1;", -13, 3);
        text("o1;" + LIFE + " o", -13, 15);
        text("o1;" + LIFE + LIFE + LIFE + LIFE + "l", -13, 47);
        text("o1;" + LIFE + POLICY + POLICY + POLICY + POLICY + POLICY + POLICY + "p9", -13, 80);
    }

    private static void faultLeavesAll() {
        QuietOffice x = Check.officeOf(Check.TWO_LIVES);
        x.keep(1);
        x.event(0, 3);
        x.day(1);
        x.event(1, 5);
        x.witness(1);
        x.ledger(1);
        x.write(1);
        x.lapse(2, true);
        x.habit(1, 2);
        Check.feedText(x, "o5;l1 1 1 1 1;q");
        Check.due("told(2)", x.told(2), 15);
        Check.due("office", x.office(), -11);
        Check.due("fault", x.fault(), 14);
        int[] due = {2, 4, 0, 1, 109, 0, 9, -1, 4, 1, 1, 1, 1};
        for (int what = 0; what < due.length; what++) {
            Check.due("told(" + what + ") behind a fault", x.told(what), due[what]);
        }
        Check.due("life(1, 5)", x.life(1, 5), 5);
        Check.due("life(1, 0)", x.life(1, 0), 40);
        Check.due("policy(2, 2)", x.policy(2, 2), 2);
        Check.due("goBack", x.goBack(1), 1);
        Check.due("office, empty", x.office(), 0);
        Check.due("fault, none", x.fault(), QuietOffice.NONE);
    }

    private static void officeBeginsAnew() {
        QuietOffice x = Check.officeOf(Check.TWO_LIVES);
        x.seed(77);
        x.keep(0);
        x.lapse(0, true);
        x.habit(0, 2);
        x.day(40);
        x.event(1, 1);
        x.day(1);
        x.lapse(0, false);
        x.day(1);
        x.lapse(0, true);
        x.event(0, 3);
        x.witness(1);
        x.ledger(1);
        x.write(1);
        Check.due("ruined", x.told(7), 4);
        Check.due("premiums came", x.told(6), 37);
        Check.due("quiet for a day", x.policy(0, 5), 1);
        Check.feedText(x, "o9;l1 2 3 4 1;p0 1 2 3 4;");
        Check.due("office", x.office(), 1);
        int[] due = {1, 1, 0, 0, 9, 0, 0, -1, 0, 0, 0, 0, 0};
        for (int what = 0; what < due.length; what++) {
            Check.due("told(" + what + ") anew", x.told(what), due[what]);
        }
        Check.due("events forgotten", x.life(0, 5), 0);
        Check.due("habit told", x.life(0, 4), 1);
        Check.due("quiet", x.policy(0, 5), 0);
        Check.due("image gone", x.goBack(0), QuietOffice.NOT);
        Check.due("seed stays", x.seed(1), 77);
        Check.due("office of nothing", x.office(), 0);
        Check.due("no lives", x.told(0), 0);
        Check.due("no policies", x.told(1), 0);
        Check.due("no funds", x.told(4), 0);
        Check.due("no life", x.life(0, 0), QuietOffice.UNKNOWN);
    }

    private static void toldOfLives() {
        QuietOffice x = Check.officeOf("o1;l200 150 1 0 2;l9 8 7 6 1;");
        int[] first = {800, 600, 4, 0, 2, 0};
        int[] second = {18, 16, 14, 12, 1, 0};
        for (int what = 0; what <= 5; what++) {
            Check.due("life(0, " + what + ")", x.life(0, what), first[what]);
            Check.due("life(1, " + what + ")", x.life(1, what), second[what]);
        }
        Check.due("life(2, 0)", x.life(2, 0), QuietOffice.UNKNOWN);
        Check.due("life(-1, 9)", x.life(-1, 9), QuietOffice.UNKNOWN);
        Check.due("life(0, 6)", x.life(0, 6), QuietOffice.OUTSIDE);
        Check.due("life(0, -1)", x.life(0, -1), QuietOffice.OUTSIDE);
    }

    private static void toldOfPolicies() {
        QuietOffice x = Check.officeOf("o1;l1 1 1 1 0;l1 1 1 1 0;p1 15 30 999 998;p0 2 3 4 5;");
        int[] first = {1, 15, 30, 999, 998, 0};
        int[] second = {0, 2, 3, 4, 5, 0};
        for (int what = 0; what <= 5; what++) {
            Check.due("policy(0, " + what + ")", x.policy(0, what), first[what]);
            Check.due("policy(1, " + what + ")", x.policy(1, what), second[what]);
        }
        x.day(2);
        Check.due("quiet", x.policy(1, 5), 2);
        Check.due("policy(2, 0)", x.policy(2, 0), QuietOffice.UNKNOWN);
        Check.due("policy(-1, 9)", x.policy(-1, 9), QuietOffice.UNKNOWN);
        Check.due("policy(0, 6)", x.policy(0, 6), QuietOffice.OUTSIDE);
        Check.due("policy(0, -1)", x.policy(0, -1), QuietOffice.OUTSIDE);
    }
}
