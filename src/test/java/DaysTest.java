/** Promises 8 to 14: events, days told and drawn, funds, habits, lapses, what is undone. */
public final class DaysTest {
    public static void main(String[] args) {
        events();
        paysInOrder();
        ruin();
        mostFunds();
        for (int seed = 2147483647; seed > 0; seed -= 7654321) {
            drifting(seed);
        }
        habits();
        lapses();
        undoing();
        undoingAll();
        wrongInputs();
        lastDays();
        Check.end();
    }

    private static void events() {
        QuietOffice x = Check.officeOf(Check.TWO_LIVES);
        Check.due("event", x.event(0, 8), 0);
        Check.due("event again", x.event(0, 1), 8);
        Check.due("event of another", x.event(1, 15), 0);
        Check.due("told", x.life(0, 5), 1);
        Check.due("told of another", x.life(1, 5), 15);
        Check.due("day", x.day(1), 146);
        Check.due("due", x.told(6), 46);
        Check.due("forgotten", x.life(0, 5), 0);
        Check.due("forgotten of another", x.life(1, 5), 0);
        Check.due("quiet 0", x.policy(0, 5), 0);
        Check.due("quiet 1", x.policy(1, 5), 1);
        x.event(0, 3);
        Check.due("days: the first has the events", x.day(3), 130);
        Check.due("quiet 0 later", x.policy(0, 5), 2);
        Check.due("event untold", x.event(0, 4), 0);
        Check.due("event taken back", x.event(0, 0), 4);
    }

    private static void paysInOrder() {
        QuietOffice x = Check.officeOf("o10;l0 0 0 0 0;l0 0 0 0 0;p0 1 2 8 0;p1 1 2 5 0;p0 2 2 1 6;");
        x.day(1);
        x.event(0, 2);
        Check.due("first pays 8, second what there is, third brings 6", x.day(1), 6);
        Check.due("paid", x.told(5), 10);
        Check.due("due", x.told(6), 6);
        Check.due("ruin", x.told(7), 2);
        Check.due("quiet behind paying", x.policy(0, 5), 0);
        QuietOffice y = Check.officeOf("o10;l0 0 0 0 0;p0 1 1 10 0;");
        Check.due("just enough", y.day(1), 0);
        Check.due("is no ruin", y.told(7), QuietOffice.NONE);
        y.day(1);
        Check.due("is ruin", y.told(7), 2);
        QuietOffice z = Check.officeOf("o0;l0 0 0 0 0;p0 1 1 0 0;");
        z.day(5);
        Check.due("nothing to be paid is no ruin", z.told(7), QuietOffice.NONE);
    }

    private static void ruin() {
        QuietOffice x = Check.officeOf("o5;l0 0 0 0 0;p0 1 3 9 50;");
        Check.due("funds", x.day(3), 0);
        Check.due("ruin", x.told(7), 3);
        x.event(0, 1);
        Check.due("goes on", x.day(1), 50);
        Check.due("pays again", x.day(3), 41);
        x.day(30);
        Check.due("the first ruin is kept", x.told(7), 3);
        Check.due("paid", x.told(5), 55);
    }

    private static void mostFunds() {
        QuietOffice x = Check.officeOf("o999;l200 0 0 0 2;p0 1 30 0 999;p0 1 30 0 999;p0 1 30 0 999;");
        for (int i = 0; i < 8; i++) {
            x.drift(99);
        }
        int due = x.told(6);
        Check.due("many premiums", due > 999999 ? 1 : 0, 1);
        Check.due("funds at most", x.told(4), 999999);
        Check.due("fund at most", x.fund(999), 999999);
        x.event(0, 1);
        x.day(1);
        Check.due("due has no such bound", x.told(6), due + 3 * 999);
        Check.due("funds at most still", x.told(4), 999999);
    }

    private static void drifting(int from) {
        QuietOffice x = Check.officeOf("o0;l200 150 100 50 2;l1 0 200 3 1;"
                + "p0 1 30 0 1;p0 2 30 0 10;p0 4 30 0 100;p1 4 30 0 999;p1 8 30 0 7;");
        QuietOffice twin = Check.officeOf("o0;l200 150 100 50 2;l1 0 200 3 1;"
                + "p0 1 30 0 1;p0 2 30 0 10;p0 4 30 0 100;p1 4 30 0 999;p1 8 30 0 7;");
        x.seed(from);
        x.event(1, 8);
        long seed = from;
        for (int i = 0; i < 20; i++) {
            for (int l = 0; l < 2; l++) {
                int set = i == 0 && l == 1 ? 8 : 0;
                for (int k = 0; k < 4; k++) {
                    seed = (seed * 1103515245L + 12345L) % 2147483648L;
                    set |= seed / 65536 % 1000 < twin.life(l, k) ? 1 << k : 0;
                }
                twin.event(l, set);
            }
            twin.day(1);
        }
        Check.due("drift", x.drift(20), twin.told(4));
        Check.due("drift due", x.told(6), twin.told(6));
        Check.due("drift told events forgotten", x.life(1, 5), 0);
        for (int p = 0; p < 5; p++) {
            Check.due("drift quiet", x.policy(p, 5), twin.policy(p, 5));
        }
        Check.due("seed", x.seed(0), (int) seed);
    }

    private static void habits() {
        QuietOffice x = Check.officeOf(Check.TWO_LIVES);
        Check.due("habit", x.habit(1, 2), 1);
        Check.due("habit again", x.habit(1, 0), 2);
        Check.due("odds", x.life(1, 3), 10);
        Check.due("habit 1", x.habit(0, 1), 0);
        Check.due("odds twice", x.life(0, 0), 200);
    }

    private static void lapses() {
        QuietOffice x = Check.officeOf(Check.TWO_LIVES);
        x.day(1);
        Check.due("lapse", x.lapse(2, true), 0);
        Check.due("set", x.told(8), 4);
        Check.due("lapse of another", x.lapse(0, true), 0);
        Check.due("set of two", x.told(8), 5);
        x.event(1, 2);
        Check.due("lapsed takes no premium", x.day(1), 100);
        Check.due("quiet stays", x.policy(2, 5), 1);
        Check.due("goes on", x.lapse(2, false), 1);
        Check.due("goes on still", x.lapse(2, false), 0);
        Check.due("pays", x.day(1), 75);
    }

    private static void undoing() {
        QuietOffice x = Check.officeOf(Check.TWO_LIVES);
        Check.due("nothing to undo", x.undo(1), QuietOffice.NOT);
        x.day(5);
        Check.due("can be undone", x.told(12), 5);
        Check.due("too many", x.undo(6), QuietOffice.NOT);
        Check.due("undo", x.undo(2), 3);
        Check.due("can be undone still", x.told(12), 3);
        Check.due("funds of day 3", x.told(4), 35);
        x.day(60);
        Check.due("30 at most", x.told(12), 30);
        Check.due("undo 29", x.undo(29), 34);
        Check.due("undo 1", x.undo(1), 33);
        Check.due("no more", x.undo(1), QuietOffice.NOT);
        x.day(3);
        Check.due("days go on", x.told(3), 36);
        Check.due("and are kept", x.undo(3), 33);
    }

    private static void undoingAll() {
        QuietOffice x = Check.officeOf(Check.TWO_LIVES);
        x.seed(5);
        x.event(0, 3);
        x.habit(0, 1);
        x.drift(4);
        x.fund(500);
        x.habit(0, 2);
        x.lapse(1, true);
        x.event(1, 7);
        x.day(50);
        x.undo(30);
        Check.due("day", x.told(3), 24);
        x = Check.officeOf(Check.TWO_LIVES);
        x.seed(5);
        x.event(0, 3);
        x.habit(0, 1);
        x.drift(4);
        int seed = x.seed(9);
        x.fund(500);
        x.habit(0, 2);
        x.lapse(1, true);
        x.event(1, 7);
        x.day(20);
        Check.due("ruined", x.told(7) > 0 ? 1 : 0, 1);
        x.witness(3);
        Check.due("undo", x.undo(24), 0);
        int[] due = {2, 4, 0, 0, 100, 0, 0, -1, 0, 1, 0, 0, 0};
        for (int what = 0; what < due.length; what++) {
            Check.due("told(" + what + ") undone", x.told(what), due[what]);
        }
        Check.due("event told is told again", x.life(0, 5), 3);
        Check.due("event told later is not", x.life(1, 5), 0);
        Check.due("habit ahead of the day stays", x.life(0, 4), 1);
        Check.due("seed drawn", seed == 5 ? 1 : 0, 0);
        Check.due("seed stays", x.seed(5), 9);
    }

    private static void wrongInputs() {
        QuietOffice x = Check.officeOf(Check.TWO_LIVES);
        Check.due("event(2, 0)", x.event(2, 0), QuietOffice.UNKNOWN);
        Check.due("event(-1, 99)", x.event(-1, 99), QuietOffice.UNKNOWN);
        Check.due("event(0, 16)", x.event(0, 16), QuietOffice.OUTSIDE);
        Check.due("event(0, -1)", x.event(0, -1), QuietOffice.OUTSIDE);
        for (int n : new int[] {Integer.MIN_VALUE, -1, 0, 100, Integer.MAX_VALUE}) {
            Check.due("day(" + n + ")", x.day(n), QuietOffice.OUTSIDE);
            Check.due("drift(" + n + ")", x.drift(n), QuietOffice.OUTSIDE);
            Check.due("undo(" + n + ")", x.undo(n), QuietOffice.OUTSIDE);
        }
        Check.due("undo(31)", x.undo(31), QuietOffice.OUTSIDE);
        Check.due("undo(30)", x.undo(30), QuietOffice.NOT);
        Check.due("fund(-1)", x.fund(-1), QuietOffice.OUTSIDE);
        Check.due("fund(1000)", x.fund(1000), QuietOffice.OUTSIDE);
        Check.due("fund(0)", x.fund(0), 100);
        Check.due("fund(999)", x.fund(999), 1099);
        Check.due("habit(2, 0)", x.habit(2, 0), QuietOffice.UNKNOWN);
        Check.due("habit(-1, 3)", x.habit(-1, 3), QuietOffice.UNKNOWN);
        Check.due("habit(0, 3)", x.habit(0, 3), QuietOffice.OUTSIDE);
        Check.due("habit(0, -1)", x.habit(0, -1), QuietOffice.OUTSIDE);
        Check.due("lapse(4)", x.lapse(4, true), QuietOffice.UNKNOWN);
        Check.due("lapse(-1)", x.lapse(-1, true), QuietOffice.UNKNOWN);
        Check.due("nothing changed", x.told(3) + x.told(8), 0);
    }

    /** Beyond the 512th call nothing is promised, but a day above 90000 cannot come sooner. */
    private static void lastDays() {
        QuietOffice x = Check.officeOf("o5;");
        for (int i = 0; i < 909; i++) {
            x.day(99);
        }
        x.day(9);
        Check.due("day 90000", x.told(3), 90000);
        Check.due("goes on", x.day(1), 5);
        Check.due("day, full", x.day(1), QuietOffice.FULL);
        Check.due("drift, full", x.drift(1), QuietOffice.FULL);
        Check.due("day, outside first", x.day(0), QuietOffice.OUTSIDE);
        x.undo(1);
        Check.due("drift goes on", x.drift(99), 5);
        Check.due("as it is called", x.told(3), 90099);
    }
}
