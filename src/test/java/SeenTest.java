/** Promises 24 to 31: witnesses, the ledger, the book. */
public final class SeenTest {
    public static void main(String[] args) {
        witnesses();
        fewestWitnesses();
        ledgerLines();
        befallen();
        befallenDayByDay();
        surely();
        book();
        torn();
        Check.end();
    }

    private static void witnesses() {
        QuietOffice x = new QuietOffice();
        Check.due("witness(-1)", x.witness(-1), QuietOffice.OUTSIDE);
        Check.due("witness(65536)", x.witness(65536), QuietOffice.OUTSIDE);
        for (int i = 1; i <= 8; i++) {
            Check.due("witness", x.witness(i == 1 ? 0 : 65535), i);
        }
        Check.due("witness, full", x.witness(1), QuietOffice.FULL);
        Check.due("witness, outside first", x.witness(65536), QuietOffice.OUTSIDE);
        Check.due("told(9)", x.told(9), 8);
    }

    private static void fewestWitnesses() {
        QuietOffice x = new QuietOffice();
        Check.due("nothing to be seen", x.fewest(0, 0), 0);
        Check.due("nothing to be seen, which", x.fewest(0, 1), 0);
        Check.due("nobody", x.fewest(1, 0), QuietOffice.NONE);
        Check.due("nobody, which", x.fewest(1, 1), QuietOffice.NONE);
        x.witness(0x000f);
        x.witness(0x00f0);
        x.witness(0x0f00);
        x.witness(0x8000);
        x.witness(0x0ff0);
        x.witness(0x003c);
        x.witness(0x0fc3);
        x.witness(0x000f);
        Check.due("two", x.fewest(0x0fff, 0), 2);
        Check.due("least of like ones", x.fewest(0x0fff, 1), 0x11);
        Check.due("three", x.fewest(0x8fff, 0), 3);
        Check.due("three, which", x.fewest(0x8fff, 1), 0x19);
        Check.due("one", x.fewest(0x0004, 1), 1);
        Check.due("not seen", x.fewest(0x1000, 0), QuietOffice.NONE);
        Check.due("not seen, which", x.fewest(0x1001, 1), QuietOffice.NONE);
        Check.due("last ones", x.fewest(0x0843, 1), 0x40);
        Check.due("fewest(-1, 0)", x.fewest(-1, 0), QuietOffice.OUTSIDE);
        Check.due("fewest(65536, 0)", x.fewest(65536, 0), QuietOffice.OUTSIDE);
        Check.due("fewest(0, 2)", x.fewest(0, 2), QuietOffice.OUTSIDE);
        Check.due("fewest(0, -1)", x.fewest(0, -1), QuietOffice.OUTSIDE);
    }

    private static void ledgerLines() {
        QuietOffice x = new QuietOffice();
        Check.due("ledger(-1)", x.ledger(-1), QuietOffice.OUTSIDE);
        Check.due("ledger(1000000)", x.ledger(1000000), QuietOffice.OUTSIDE);
        Check.due("ledger(0)", x.ledger(0), 1);
        Check.due("ledger(999999)", x.ledger(999999), 2);
        Check.due("ledger(1)", x.ledger(1), 3);
        Check.due("ledger, full", x.ledger(1), QuietOffice.FULL);
        Check.due("ledger, outside first", x.ledger(-1), QuietOffice.OUTSIDE);
        Check.due("told(10)", x.told(10), 3);
        Check.due("befell, no life", x.befell(0, 0), QuietOffice.UNKNOWN);
        Check.due("befell(-1, -1)", x.befell(-1, -1), QuietOffice.UNKNOWN);
        Check.due("sure, no life", x.sure(0), QuietOffice.UNKNOWN);
        Check.due("sure(-1)", x.sure(-1), QuietOffice.UNKNOWN);
    }

    private static void befallen() {
        QuietOffice x = Check.officeOf("o100;l1 1 1 1 0;l1 1 1 1 0;p0 6 3 50 7;p1 1 2 10 3;");
        Check.due("no ledger", x.befell(0, -1), 1);
        Check.due("no ledger, no day", x.befell(0, 0), QuietOffice.NONE);
        Check.due("no ledger, sure", x.sure(0), 0);
        x.ledger(107);
        Check.due("one day", x.befell(0, -1), 12);
        Check.due("one day, first", x.befell(0, 0), 2);
        Check.due("one day, beyond", x.befell(0, 1), QuietOffice.NONE);
        Check.due("one day, far ahead", x.befell(0, -2), QuietOffice.NONE);
        Check.due("another life", x.befell(1, -1), 0);
        Check.due("another life, first", x.befell(1, 0), QuietOffice.NONE);
        x.ledger(97);
        x.ledger(97);
        Check.due("three days", x.befell(0, -1), 12 * 4 * 4);
        Check.due("three days, 0", x.befell(0, 0), 2);
        Check.due("three days, 1", x.befell(0, 1), 0);
        Check.due("three days, 2", x.befell(0, 2), 0);
        Check.due("three days, 3", x.befell(0, 3), QuietOffice.NONE);
        x.event(0, 15);
        x.event(1, 15);
        Check.due("events told are not looked at", x.befell(0, -1), 12 * 4 * 4);
        x.lapse(0, true);
        Check.due("lapsed", x.befell(0, -1), 0);
        x.tear();
        x.ledger(100);
        x.ledger(90);
        x.ledger(90);
        Check.due("all fits", x.befell(0, -1), 4096);
        Check.due("all fits, first", x.befell(0, 2), 0);
        Check.due("all fits, sure", x.sure(0), 0);
    }

    private static void befallenDayByDay() {
        // Funds behind the second day tell that it was stirred once or never, not when.
        QuietOffice x = Check.officeOf("o10;l1 1 1 1 0;p0 1 2 5 1;p0 2 1 0 4;");
        x.ledger(11);
        x.ledger(15);
        Check.due("rows", x.befell(0, -1), 4 * 4);
        Check.due("first day", x.befell(0, 0), 1);
        Check.due("second day", x.befell(0, 1), 2);
        Check.due("sure", x.sure(0), 3);
        QuietOffice y = Check.officeOf("o10;l1 1 1 1 0;p0 1 30 5 1;p0 2 30 0 1;");
        y.ledger(11);
        y.ledger(12);
        Check.due("either, rows", y.befell(0, -1), 8 * 8);
        Check.due("either, first day", y.befell(0, 0), 1);
        Check.due("either, second day", y.befell(0, 1), 1);
        Check.due("either, sure", y.sure(0), 0);
    }

    private static void surely() {
        QuietOffice x = Check.officeOf("o10;l1 1 1 1 0;p0 4 30 5 1;p0 8 30 0 10;");
        x.ledger(20);
        Check.due("one", x.sure(0), 8);
        x.ledger(31);
        Check.due("both", x.sure(0), 12);
        x.ledger(33);
        Check.due("no row", x.sure(0), 0);
        Check.due("no row, how many", x.befell(0, -1), 0);
    }

    private static void book() {
        QuietOffice x = Check.officeOf("o100;l1 1 1 1 0;p0 1 2 30 9;");
        Check.due("no book", x.judge(), QuietOffice.NONE);
        Check.due("write(-1)", x.write(-1), QuietOffice.OUTSIDE);
        Check.due("write(1000000)", x.write(1000000), QuietOffice.OUTSIDE);
        int[] due = {100, 70, 70, 40, 40, 10, 10, 0, 0, 0};
        for (int i = 0; i < due.length; i++) {
            Check.due("write", x.write(due[i]), i + 1);
        }
        Check.due("right", x.judge(), QuietOffice.NONE);
        x.event(0, 1);
        Check.due("events told are not looked at", x.judge(), QuietOffice.NONE);
        for (int i = 11; i <= 20; i++) {
            Check.due("write", x.write(i == 13 ? 999999 : 0), i);
        }
        Check.due("write, full", x.write(0), QuietOffice.FULL);
        Check.due("write, outside first", x.write(-1), QuietOffice.OUTSIDE);
        Check.due("told(11)", x.told(11), 20);
        Check.due("wrong", x.judge(), 12);
        x.day(1);
        Check.due("from now", x.judge(), 0);
    }

    private static void torn() {
        QuietOffice x = Check.officeOf(Check.TWO_LIVES);
        Check.due("nothing", x.tear(), 0);
        x.witness(1);
        x.witness(2);
        x.ledger(1);
        x.write(1);
        x.write(1);
        x.write(1);
        Check.due("all", x.tear(), 6);
        Check.due("witnesses", x.told(9), 0);
        Check.due("ledger", x.told(10), 0);
        Check.due("book", x.told(11), 0);
        Check.due("again", x.tear(), 0);
        Check.due("fewest", x.fewest(1, 0), QuietOffice.NONE);
    }
}
