/** Witnesses, ledger, book, and promises 24 to 31 at their bounds; each test names the sentence that it holds. */
public final class SeenEdgesTest {
    public static void main(String[] args) {
        witnessHasBounds();
        eightWitnessesAtMost();
        fewestHasBounds();
        fewestSeeAllTheDays();
        fewestOfLikeOnesTheLeast();
        fewestOfNothing();
        ledgerHasBounds();
        threeLinesOfTheLedgerAtMost();
        befellHasBounds();
        befellWithoutALedger();
        befellByAllRows();
        befellTheFirstRow();
        befellOfNoRow();
        sureHasBounds();
        sureInEachRow();
        nothingBefallsOtherLives();
        writeHasBounds();
        twentyLinesOfTheBookAtMost();
        judgeTellsTheFirstWrong();
        tearTellsHowMuchAllHad();
        Check.end();
    }

    private static QuietOffice two() {
        return Check.officeOf(Check.TWO_LIVES);
    }

    /** Promise 24: "A WITNESS (days 0 .. 65535): how many. OUTSIDE"; section 3: "a SET of 16 days". */
    private static void witnessHasBounds() {
        Check.bounds("witness", days -> new QuietOffice().witness(days), 0, 65535, QuietOffice.OUTSIDE);
        QuietOffice x = new QuietOffice();
        Check.due("of no day", x.witness(0), 1);
        Check.due("of the first day", x.witness(1), 2);
        Check.due("of the last day", x.witness(32768), 3);
        Check.due("who saw the first", x.fewest(1, 1), 2);
        Check.due("who saw the last", x.fewest(32768, 1), 4);
        Check.due("of all days", x.witness(65535), 4);
        Check.due("who saw all", x.fewest(65535, 1), 8);
    }

    /** Promise 24: "FULL (8)"; section 3: "WITNESSES (8 at most)". */
    private static void eightWitnessesAtMost() {
        QuietOffice x = new QuietOffice();
        for (int w = 0; w < 8; w++) {
            Check.due("witness " + w, x.witness(1 << w), w + 1);
            Check.due("how many", x.told(9), w + 1);
        }
        Check.due("a ninth", x.witness(1 << 8), QuietOffice.FULL);
        Check.due("a ninth, outside", x.witness(65536), QuietOffice.OUTSIDE);
        Check.due("still eight", x.told(9), 8);
        Check.due("the eighth counts", x.fewest(255, 1), 255);
        Check.due("the ninth does not", x.fewest(256, 1), QuietOffice.NONE);
    }

    /** Promise 25: "FEWEST (days 0 .. 65535): what = 0 how many, 1 which; NONE. OUTSIDE." */
    private static void fewestHasBounds() {
        Check.bounds("fewest, days", days -> new QuietOffice().fewest(days, 0), 0, 65535, QuietOffice.OUTSIDE);
        Check.bounds("fewest, what", what -> new QuietOffice().fewest(0, what), 0, 1, QuietOffice.OUTSIDE);
    }

    /** Section 3: "FEWEST whose days together have all of told ones (a SET of days; they may have more)". */
    private static void fewestSeeAllTheDays() {
        QuietOffice x = new QuietOffice();
        int[] saw = {0x0007, 0x0038, 0x01c0, 0x0e00, 0x7000, 0x8001, 0x1249, 0x2492};
        for (int days : saw) {
            x.witness(days);
        }
        for (int days = 0; days <= 65535; days += days < 600 ? 1 : 251) {
            int best = QuietOffice.NONE;
            for (int set = 255; set >= 0; set--) {
                int together = 0;
                for (int w = 0; w < 8; w++) {
                    together |= (set >> w & 1) != 0 ? saw[w] : 0;
                }
                boolean isBetter = best < 0 || Integer.bitCount(set) <= Integer.bitCount(best);
                best = (days & together) == days && isBetter ? set : best;
            }
            Check.due("which for " + days, x.fewest(days, 1), best);
            Check.due("how many for " + days, x.fewest(days, 0), best < 0 ? best : Integer.bitCount(best));
        }
    }

    /** Section 3: "which (a SET of WITNESSES; of like ones the least)". */
    private static void fewestOfLikeOnesTheLeast() {
        QuietOffice x = new QuietOffice();
        x.witness(3);
        x.witness(12);
        x.witness(3);
        x.witness(12);
        Check.due("the first of two", x.fewest(3, 1), 1);
        Check.due("the first pair", x.fewest(15, 1), 3);
        x.witness(15);
        Check.due("one that saw more", x.fewest(15, 1), 16);
        Check.due("like ones still", x.fewest(3, 1), 1);
        Check.due("one across both", x.fewest(6, 1), 16);
    }

    /** Section 3: FEWEST for no days are none of them; "NONE" if a day was not seen. */
    private static void fewestOfNothing() {
        QuietOffice x = new QuietOffice();
        Check.due("nobody for no days", x.fewest(0, 0), 0);
        Check.due("nobody for no days, which", x.fewest(0, 1), 0);
        Check.due("nobody for one day", x.fewest(1, 0), QuietOffice.NONE);
        Check.due("nobody for one day, which", x.fewest(1, 1), QuietOffice.NONE);
        x.witness(0);
        Check.due("one who saw nothing", x.fewest(1, 0), QuietOffice.NONE);
        Check.due("no days", x.fewest(0, 1), 0);
        x.witness(32767);
        Check.due("the day beside", x.fewest(16384, 1), 2);
        Check.due("a day not seen", x.fewest(32768, 1), QuietOffice.NONE);
        Check.due("one of all not seen", x.fewest(65535, 0), QuietOffice.NONE);
    }

    /** Promise 26: "A line of THE LEDGER (FUNDS 0 .. 999999): how many. OUTSIDE". */
    private static void ledgerHasBounds() {
        Check.bounds("ledger", funds -> new QuietOffice().ledger(funds), 0, 999999, QuietOffice.OUTSIDE);
    }

    /** Promise 26: "FULL (3)"; section 3: "THE LEDGER (3 at most)". */
    private static void threeLinesOfTheLedgerAtMost() {
        QuietOffice x = Check.officeOf("o10;l1 1 1 1 0;p0 1 30 0 1;");
        for (int line = 1; line <= 3; line++) {
            Check.due("line " + line, x.ledger(10 + line), line);
            Check.due("how long", x.told(10), line);
        }
        Check.due("a fourth", x.ledger(14), QuietOffice.FULL);
        Check.due("a fourth, outside", x.ledger(1000000), QuietOffice.OUTSIDE);
        Check.due("still three", x.told(10), 3);
        Check.due("as it was", x.befell(0, -1), 512);
    }

    /** Promise 27: "i = NONE how many, else the first row's i-th; NONE. UNKNOWN." */
    private static void befellHasBounds() {
        Check.bounds("befell, life", l -> two().befell(l, -1), 0, 1, QuietOffice.UNKNOWN);
        Check.due("no office", new QuietOffice().befell(0, -1), QuietOffice.UNKNOWN);
        for (int lines = 0; lines <= 3; lines++) {
            QuietOffice x = Check.officeOf("o10;l1 1 1 1 0;p0 8 30 0 1;");
            for (int line = 1; line <= lines; line++) {
                x.ledger(10 + line);
            }
            Check.due("how many", x.befell(0, QuietOffice.NONE), 1 << (3 * lines));
            for (int i : new int[] {Integer.MIN_VALUE, -2, 0, 1, 2, 3, Integer.MAX_VALUE}) {
                Check.due(lines + " lines, i = " + i, x.befell(0, i), i >= 0 && i < lines ? 8 : QuietOffice.NONE);
            }
        }
    }

    /** Section 3: "(no LEDGER: 1, of no days)"; "SURE: .. (a SET; 0 without)". */
    private static void befellWithoutALedger() {
        QuietOffice x = two();
        for (int l = 0; l < 2; l++) {
            Check.due("one row", x.befell(l, -1), 1);
            Check.due("of no days", x.befell(l, 0), QuietOffice.NONE);
            Check.due("nothing is sure", x.sure(l), 0);
        }
        x.ledger(0);
        Check.due("a ledger that nothing fits", x.befell(0, -1), 0);
        x.tear();
        Check.due("none again", x.befell(0, -1), 1);
    }

    /** Section 3: "rows of SETS (0 .. 15 each) for that LIFE by which it is so". */
    private static void befellByAllRows() {
        QuietOffice x = Check.officeOf("o10;l1 1 1 1 0;p0 15 30 0 1;");
        x.ledger(10);
        Check.due("the empty set alone", x.befell(0, -1), 1);
        Check.due("the empty set", x.befell(0, 0), 0);
        x.tear();
        x.ledger(11);
        Check.due("all sets but the empty one", x.befell(0, -1), 15);
        x.ledger(12);
        x.ledger(13);
        Check.due("on each of three days", x.befell(0, -1), 3375);
        x.lapse(0, true);
        Check.due("lapsed", x.befell(0, -1), 0);
        x.tear();
        x.ledger(10);
        x.ledger(10);
        x.ledger(10);
        Check.due("all rows of three days", x.befell(0, -1), 4096);
        QuietOffice y = Check.officeOf("o10;l1 1 1 1 0;p0 1 30 0 1;p0 2 30 0 2;p0 4 30 0 4;p0 8 30 0 8;");
        for (int set = 0; set <= 15; set++) {
            y.tear();
            y.ledger(10 + set);
            Check.due("one row", y.befell(0, -1), 1);
            Check.due("just set " + set, y.befell(0, 0), set);
            Check.due("sure of it", y.sure(0), set);
        }
        y.tear();
        y.ledger(26);
        Check.due("no set brings so much", y.befell(0, -1), 0);
        y.tear();
        y.ledger(9);
        Check.due("no set takes", y.befell(0, -1), 0);
    }

    /** Section 3: "the first row's i-th"; rows go by their first day, then by the next. */
    private static void befellTheFirstRow() {
        // Kind 0 brings 1, on the second day alone; but for kind 1 on one of both, 1 would be paid then.
        QuietOffice x = Check.officeOf("o10;l1 1 1 1 0;p0 1 30 0 1;p0 2 2 1 0;");
        x.ledger(10);
        x.ledger(11);
        Check.due("first day", x.befell(0, 0), 0);
        Check.due("second day", x.befell(0, 1), 3);
        // An event of kind 1 on the first or on the second day alone: the first row has it on the second.
        QuietOffice y = Check.officeOf("o10;l1 1 1 1 0;p0 2 2 1 0;");
        y.ledger(10);
        y.ledger(10);
        Check.due("no event first", y.befell(0, 0), 0);
        Check.due("then one", y.befell(0, 1), 2);
        Check.due("rows", y.befell(0, -1), 8 * 8 * 3);
        y.ledger(10);
        Check.due("three days, first", y.befell(0, 0), 0);
        Check.due("three days, second", y.befell(0, 1), 2);
        Check.due("three days, third", y.befell(0, 2), 0);
        Check.due("three days, rows", y.befell(0, -1), 512 * 5);
    }

    /** Promise 27: "NONE" where no row fits. */
    private static void befellOfNoRow() {
        QuietOffice x = Check.officeOf("o10;l1 1 1 1 0;p0 1 30 0 1;");
        x.ledger(11);
        x.ledger(999999);
        x.ledger(12);
        Check.due("how many", x.befell(0, -1), 0);
        for (int i = 0; i <= 3; i++) {
            Check.due("day " + i, x.befell(0, i), QuietOffice.NONE);
        }
        Check.due("sure", x.sure(0), 0);
        x.tear();
        x.ledger(11);
        Check.due("a row", x.befell(0, 0), 1);
        Check.due("sure of it", x.sure(0), 1);
        x.ledger(10);
        Check.due("no row behind one", x.befell(0, 0), QuietOffice.NONE);
        Check.due("how many behind one", x.befell(0, -1), 0);
        Check.due("sure behind one", x.sure(0), 0);
    }

    /** Promise 28: "SURE. UNKNOWN." */
    private static void sureHasBounds() {
        Check.bounds("sure", l -> two().sure(l), 0, 1, QuietOffice.UNKNOWN);
        Check.due("no office", new QuietOffice().sure(0), QuietOffice.UNKNOWN);
    }

    /** Section 3: "KINDS that are in some day of each such row". */
    private static void sureInEachRow() {
        QuietOffice x = Check.officeOf("o10;l1 1 1 1 0;p0 1 30 0 1;p0 2 30 0 1;p0 12 30 0 5;");
        x.ledger(10);
        Check.due("nothing befell", x.sure(0), 0);
        x.ledger(11);
        Check.due("either of two is not sure", x.sure(0), 0);
        x.ledger(13);
        Check.due("both are", x.sure(0), 3);
        x.tear();
        x.ledger(15);
        Check.due("either of the others is not", x.sure(0), 0);
        x.ledger(16);
        x.ledger(17);
        Check.due("nor on three days", x.sure(0), 0);
        QuietOffice y = Check.officeOf("o10;l1 1 1 1 0;p0 8 30 0 1;p0 1 30 0 3;");
        y.ledger(11);
        y.ledger(14);
        y.ledger(14);
        Check.due("on some day each", y.sure(0), 9);
    }

    /** Section 3: "nothing befalling other LIVES than a told one"; "EVENTS told not looked at". */
    private static void nothingBefallsOtherLives() {
        QuietOffice x = Check.officeOf("o10;l1 1 1 1 0;l1 1 1 1 0;p0 1 2 3 1;p1 1 30 0 2;");
        x.event(0, 1);
        x.event(1, 1);
        x.ledger(12);
        Check.due("by life 1", x.befell(1, -1), 8);
        Check.due("not by life 0", x.befell(0, -1), 0);
        x.ledger(9);
        Check.due("life 0 is quiet and paid meanwhile", x.befell(1, -1), 64);
        Check.due("sure of life 1", x.sure(1), 1);
        Check.due("sure of life 0", x.sure(0), 0);
        Check.due("events are still told", x.life(1, 5), 1);
    }

    /** Promise 29: "A line behind THE BOOK (FUNDS 0 .. 999999): how many. OUTSIDE". */
    private static void writeHasBounds() {
        Check.bounds("write", funds -> new QuietOffice().write(funds), 0, 999999, QuietOffice.OUTSIDE);
    }

    /** Promise 29: "FULL (20)"; section 3: "THE BOOK (20 at most)". */
    private static void twentyLinesOfTheBookAtMost() {
        QuietOffice x = Check.officeOf("o10;");
        for (int line = 1; line <= 20; line++) {
            Check.due("line " + line, x.write(10), line);
            Check.due("lines", x.told(11), line);
        }
        Check.due("one more", x.write(11), QuietOffice.FULL);
        Check.due("one more, outside", x.write(-1), QuietOffice.OUTSIDE);
        Check.due("still twenty", x.told(11), 20);
        Check.due("what was refused is not judged", x.judge(), QuietOffice.NONE);
    }

    /** Section 3: "WRONG: the first that is otherwise; NONE", of "days to come without events". */
    private static void judgeTellsTheFirstWrong() {
        Check.due("no office, no book", new QuietOffice().judge(), QuietOffice.NONE);
        for (int wrong = 0; wrong <= 20; wrong++) {
            for (int by = -1; by <= 1; by++) {
                QuietOffice x = Check.officeOf("o90;l1 1 1 1 0;p0 1 3 11 50;");
                for (int line = 0; line < 20; line++) {
                    int right = 90 - (line + 1) / 3 * 11;
                    x.write(line == wrong ? right + by : right);
                }
                boolean isWrong = wrong < 20 && by != 0;
                Check.due("line " + wrong + " by " + by, x.judge(), isWrong ? wrong : QuietOffice.NONE);
            }
        }
        QuietOffice y = Check.officeOf("o90;l1 1 1 1 0;p0 1 3 11 50;");
        y.write(90);
        y.write(90);
        y.write(79);
        y.write(78);
        y.write(77);
        Check.due("the first of two", y.judge(), 3);
        y.event(0, 1);
        Check.due("events told are not looked at", y.judge(), 3);
        y.event(0, 0);
        y.day(1);
        Check.due("from now", y.judge(), 1);
        y.lapse(0, true);
        Check.due("lapsed", y.judge(), 2);
    }

    /** Promise 31: "No WITNESSES, no LEDGER, no BOOK: how much all had." */
    private static void tearTellsHowMuchAllHad() {
        QuietOffice x = two();
        Check.due("nothing", x.tear(), 0);
        x.witness(0);
        Check.due("a witness", x.tear(), 1);
        x.ledger(0);
        Check.due("a line of the ledger", x.tear(), 1);
        x.write(0);
        Check.due("a line of the book", x.tear(), 1);
        for (int i = 0; i < 30; i++) {
            x.witness(65535);
            x.ledger(1);
            x.write(1);
        }
        Check.due("all are full", x.tear(), 31);
        for (int what = 9; what <= 11; what++) {
            Check.due("told(" + what + ")", x.told(what), 0);
        }
        Check.due("no witness", x.fewest(1, 0), QuietOffice.NONE);
        Check.due("no ledger", x.befell(0, -1), 1);
        Check.due("no book", x.judge(), QuietOffice.NONE);
        Check.due("nothing again", x.tear(), 0);
        Check.due("room for witnesses", x.witness(2), 1);
        Check.due("room in the ledger", x.ledger(2), 1);
        Check.due("room in the book", x.write(2), 1);
        Check.due("old witnesses are forgotten", x.fewest(1, 0), QuietOffice.NONE);
    }
}
