import java.util.List;

/** The seed, images, and promises 32 to 34 at their bounds; each test names the sentence that it holds. */
public final class ImagesEdgesTest {
    public static void main(String[] args) {
        constantsAreFarBelow();
        seedHasBounds();
        seedIsZeroAtFirst();
        keepHasBounds();
        goBackHasBounds();
        goBackNotUnlessKept();
        imagesKeepAllOfSectionTwo();
        imagesAreTwo();
        imagesStayWhenLivedOn();
        nothingCanBeUndoneThen();
        undoneSinceTheImage();
        imagesDoNotKeepWhatWasSeen();
        Check.end();
    }

    private static QuietOffice two() {
        return Check.officeOf(Check.TWO_LIVES);
    }

    /** Terms: "NONE is -1", "They are far below all that is counted: -1000000001 and on". */
    private static void constantsAreFarBelow() {
        Check.due("NONE", QuietOffice.NONE, -1);
        Check.due("UNKNOWN", QuietOffice.UNKNOWN, -1000000001);
        Check.due("OUTSIDE", QuietOffice.OUTSIDE, -1000000002);
        Check.due("NOT", QuietOffice.NOT, -1000000003);
        Check.due("FULL", QuietOffice.FULL, -1000000004);
    }

    /** Promise 32: "THE SEED becomes v (0 .. 2147483647): what it was. OUTSIDE." */
    private static void seedHasBounds() {
        QuietOffice x = new QuietOffice();
        int was = 0;
        for (int v : new int[] {1, 0, 2147483646, 2147483647, 5}) {
            Check.due("seed(" + v + ")", x.seed(v), was);
            was = v;
        }
        for (int v : new int[] {-1, -2, Integer.MIN_VALUE, Integer.MIN_VALUE + 1, -2147483643}) {
            Check.due("seed(" + v + ")", x.seed(v), QuietOffice.OUTSIDE);
        }
        Check.due("as it was", x.seed(0), 5);
    }

    /** Section 3: "THE SEED (0 at first". */
    private static void seedIsZeroAtFirst() {
        Check.due("new", new QuietOffice().seed(3), 0);
        Check.due("with an office", two().seed(3), 0);
        QuietOffice x = two();
        QuietOffice y = two();
        y.seed(0);
        Check.due("drawn alike", x.drift(50), y.drift(50));
        Check.due("seeds alike", x.seed(0), y.seed(0));
    }

    /** Promise 33: "IMAGE i becomes what is so ..: 1. UNKNOWN."; section 3: "IMAGES 0, 1". */
    private static void keepHasBounds() {
        Check.bounds("keep", i -> two().keep(i), 0, 1, QuietOffice.UNKNOWN);
        Check.bounds("keep, no office", i -> new QuietOffice().keep(i), 0, 1, QuietOffice.UNKNOWN);
        Check.due("1", two().keep(0), 1);
        Check.due("1 again", two().keep(1), 1);
    }

    private static QuietOffice keptBoth() {
        QuietOffice x = two();
        x.keep(0);
        x.keep(1);
        return x;
    }

    /** Promise 34: "What is so becomes IMAGE i ..: 1. UNKNOWN". */
    private static void goBackHasBounds() {
        Check.bounds("goBack", i -> keptBoth().goBack(i), 0, 1, QuietOffice.UNKNOWN);
        Check.due("1", keptBoth().goBack(0), 1);
        Check.due("1 again", keptBoth().goBack(1), 1);
        Check.due("unknown, nothing kept", two().goBack(2), QuietOffice.UNKNOWN);
        Check.due("unknown below, nothing kept", two().goBack(-1), QuietOffice.UNKNOWN);
    }

    /** Promise 34: "NOT: it was not kept." */
    private static void goBackNotUnlessKept() {
        for (int i = 0; i < 2; i++) {
            QuietOffice x = two();
            Check.due("not kept", x.goBack(i), QuietOffice.NOT);
            x.keep(1 - i);
            Check.due("the other was kept", x.goBack(i), QuietOffice.NOT);
            x.keep(i);
            Check.due("kept", x.goBack(i), 1);
            Check.feedText(x, "o1;x");
            x.office();
            Check.due("a fault leaves it", x.goBack(i), 1);
            x.office();
            Check.due("an office takes it away", x.goBack(i), QuietOffice.NOT);
        }
    }

    private static QuietOffice lived() {
        QuietOffice x = two();
        x.seed(42);
        x.event(0, 1);
        x.drift(9);
        x.fund(21);
        x.event(0, 9);
        x.event(1, 6);
        x.habit(0, 2);
        x.habit(1, 0);
        x.lapse(3, true);
        x.lapse(0, true);
        return x;
    }

    private static void liveOn(QuietOffice x) {
        x.drift(99);
        x.fund(5);
        x.event(0, 2);
        x.event(1, 1);
        x.habit(0, 1);
        x.habit(1, 1);
        x.lapse(3, false);
        x.lapse(1, true);
        x.seed(7);
    }

    /** Section 3: "keep all of section 2 (HABITS, who LAPSED, EVENTS told, too), THE SEED". */
    private static void imagesKeepAllOfSectionTwo() {
        for (int i = 0; i < 2; i++) {
            QuietOffice x = lived();
            QuietOffice y = lived();
            x.keep(i);
            y.keep(i);
            liveOn(x);
            Check.due("goBack", x.goBack(i), 1);
            List<String> back = Look.at(x);
            List<String> due = Look.at(y);
            for (int line = 0; line < due.size(); line++) {
                Check.so(due.get(line) + " and not " + back.get(line), due.get(line).equals(back.get(line)));
            }
        }
    }

    /** Section 3: "IMAGES 0, 1": each has its own. */
    private static void imagesAreTwo() {
        QuietOffice x = two();
        x.day(1);
        x.seed(11);
        x.keep(0);
        x.day(1);
        x.seed(12);
        x.keep(1);
        x.day(1);
        x.seed(13);
        x.goBack(0);
        Check.due("day of 0", x.told(3), 1);
        Check.due("seed of 0", x.seed(0), 11);
        x.goBack(1);
        Check.due("day of 1", x.told(3), 2);
        Check.due("seed of 1", x.seed(0), 12);
        x.goBack(0);
        Check.due("day of 0 again", x.told(3), 1);
        x.day(5);
        x.keep(0);
        x.goBack(1);
        Check.due("day of 1 again", x.told(3), 2);
        x.goBack(0);
        Check.due("day of 0 anew", x.told(3), 6);
    }

    /** Promise 34: "What is so becomes IMAGE i": what is done then does not change the image. */
    private static void imagesStayWhenLivedOn() {
        QuietOffice x = lived();
        QuietOffice y = lived();
        x.keep(0);
        y.keep(0);
        for (int i = 0; i < 3; i++) {
            liveOn(x);
            x.goBack(0);
        }
        Check.so("as at first", Look.at(x).equals(Look.at(y)));
    }

    /** Promises 33, 34: "(nothing can be undone then)". */
    private static void nothingCanBeUndoneThen() {
        QuietOffice x = two();
        x.day(30);
        Check.due("30 days", x.told(12), 30);
        x.keep(1);
        Check.due("behind keep", x.told(12), 0);
        Check.due("undo behind keep", x.undo(1), QuietOffice.NOT);
        x.day(30);
        x.goBack(1);
        Check.due("behind goBack", x.told(12), 0);
        Check.due("undo behind goBack", x.undo(1), QuietOffice.NOT);
        Check.due("the day", x.told(3), 30);
    }

    /** Section 3: "UNDONE: the latest DAYS since the text or IMAGE". */
    private static void undoneSinceTheImage() {
        QuietOffice x = two();
        x.day(3);
        Check.due("since the text", x.undo(4), QuietOffice.NOT);
        x.keep(0);
        x.day(2);
        Check.due("since keep, one too many", x.undo(3), QuietOffice.NOT);
        Check.due("since keep", x.undo(2), 3);
        x.day(1);
        x.goBack(0);
        x.day(2);
        Check.due("since goBack, one too many", x.undo(3), QuietOffice.NOT);
        Check.due("since goBack, one", x.undo(1), 4);
        Check.due("since goBack, the other", x.undo(1), 3);
        x.day(1);
        Check.feedText(x, "o5;");
        x.office();
        Check.due("since the next text", x.undo(1), QuietOffice.NOT);
    }

    /** Section 3: "keep all of section 2 .., THE SEED": WITNESSES, LEDGER, BOOK, THE TEXT are none of these. */
    private static void imagesDoNotKeepWhatWasSeen() {
        QuietOffice x = two();
        x.witness(1);
        x.keep(0);
        x.witness(2);
        x.ledger(100);
        x.write(100);
        x.feed('o');
        x.goBack(0);
        int[] due = {1, 2, 1, 1};
        int[] what = {2, 9, 10, 11};
        for (int i = 0; i < due.length; i++) {
            Check.due("told(" + what[i] + ")", x.told(what[i]), due[i]);
        }
    }
}
