/** The answers that README.md tells for its example. */
public final class ReadmeTest {
    public static void main(String[] args) {
        QuietOffice x = new QuietOffice();
        Check.feedText(x, "o100;l100 50 0 20 0;p0 3 3 40 9;");
        Check.due("office()", x.office(), 1);
        Check.due("event(0, 1)", x.event(0, 1), 0);
        Check.due("day(1)", x.day(1), 109);
        Check.due("soonest()", x.soonest(), 9);
        Check.due("undo(1)", x.undo(1), 0);
        Check.due("told(4)", x.told(4), 100);
        Check.end();
    }
}
