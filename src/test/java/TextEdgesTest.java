import java.util.Random;
import java.util.regex.Matcher;
import java.util.regex.Pattern;

/** Section 1 and promises 1 to 4 at their bounds; each test names the sentence that it holds. */
public final class TextEdgesTest {
    private static final String LIFE = "l1 2 3 4 0;";
    private static final String POLICY = "p0 1 1 1 1;";
    private static final int FINE = QuietOffice.NONE;
    private static final int[][] BOUNDS_OF_LIFE = {{0, 200}, {0, 200}, {0, 200}, {0, 200}, {0, 2}};
    private static final int[][] BOUNDS_OF_POLICY = {{0, 3}, {1, 15}, {1, 30}, {0, 999}, {0, 999}};

    public static void main(String[] args) {
        aNewObjectHasNoOffice();
        lettersAreFrom0To255();
        theTextHas250LettersAtMost();
        theTextIsEmptyBehindOffice();
        anEmptyTextIsNoOffice();
        numbersHaveOneToThreeFigures();
        longNumbersDoNotWrapAround();
        everyNumberHasItsBounds();
        aLifeMustBeToldAhead();
        aWordIsOneLetter();
        everyLetterAtEveryKindOfPlace();
        blanksMayStandAnywhere();
        noBlankStandsWithinANumber();
        numbersSideBySideNeedABlank();
        theOfficeIsFirstAndOnce();
        fourLivesAtMost();
        sixPoliciesAtMost();
        theFirstLetterWithAFaultCounts();
        ofTheFaultsOfALetterTheLeast();
        theEndIsAtTheTextsLength();
        numbersComeFrom0On();
        drawnTextsAsAnotherReaderReadsThem();
        faultIsOfTheLatestOffice();
        aFaultLeavesAllElse();
        anOfficeClearsTheRest();
        nothingOfTheLastOfficeIsLeft();
        Check.end();
    }

    private static QuietOffice read(String text, int answer, int place) {
        QuietOffice x = new QuietOffice();
        Check.feedText(x, text);
        Check.due("letters of '" + text + "'", x.told(2), text.length());
        Check.due("office() of '" + text + "'", x.office(), answer);
        Check.due("fault() of '" + text + "'", x.fault(), place);
        return x;
    }

    /** Promise 1: "No OFFICE." */
    private static void aNewObjectHasNoOffice() {
        QuietOffice x = new QuietOffice();
        for (int what = 0; what <= 12; what++) {
            Check.due("new told(" + what + ")", x.told(what), what == 7 ? QuietOffice.NONE : 0);
        }
        Check.due("new fault()", x.fault(), QuietOffice.NONE);
        Check.due("new life(0, 0)", x.life(0, 0), QuietOffice.UNKNOWN);
        Check.due("new policy(0, 0)", x.policy(0, 0), QuietOffice.UNKNOWN);
        Check.due("new undo(1)", x.undo(1), QuietOffice.NOT);
        Check.due("new goBack(0)", x.goBack(0), QuietOffice.NOT);
        Check.due("new goBack(1)", x.goBack(1), QuietOffice.NOT);
        Check.due("new drift(99)", x.drift(99), 0);
        Check.due("nobody lives, nothing is drawn", x.seed(1), 0);
    }

    /** Promise 2: "A letter (0 .. 255) comes behind THE TEXT: how many it has. OUTSIDE" */
    private static void lettersAreFrom0To255() {
        Check.bounds("feed", letter -> new QuietOffice().feed(letter), 0, 255, QuietOffice.OUTSIDE);
        QuietOffice x = new QuietOffice();
        Check.due("feed(-1)", x.feed(-1), QuietOffice.OUTSIDE);
        Check.due("feed(0)", x.feed(0), 1);
        Check.due("feed(1)", x.feed(1), 2);
        Check.due("feed(256)", x.feed(256), QuietOffice.OUTSIDE);
        Check.due("feed(254)", x.feed(254), 3);
        Check.due("feed(255)", x.feed(255), 4);
        Check.due("told(2)", x.told(2), 4);
        // 367 is 111 and 256: it would be an 'o' if letters were wrapped around.
        QuietOffice y = new QuietOffice();
        Check.due("feed(367)", y.feed(367), QuietOffice.OUTSIDE);
        Check.feedText(y, "1;");
        Check.due("no 'o' came", y.office(), -11);
    }

    /** Section 1: "is told in a text (250 letters at most)"; promise 2: "FULL (250)". */
    private static void theTextHas250LettersAtMost() {
        for (int length = 249; length <= 251; length++) {
            String text = "o" + " ".repeat(length - 5) + "999;";
            QuietOffice x = new QuietOffice();
            for (int i = 0; i < length; i++) {
                Check.due("feed, letter " + (i + 1), x.feed(text.charAt(i)), i < 250 ? i + 1 : QuietOffice.FULL);
            }
            Check.due("letters of " + length, x.told(2), Math.min(250, length));
            Check.due("office() of " + length, x.office(), length <= 250 ? 0 : -11);
            Check.due("fault() of " + length, x.fault(), length <= 250 ? FINE : 250);
            Check.due("funds by " + length, x.told(4), length <= 250 ? 999 : 0);
        }
        QuietOffice y = new QuietOffice();
        Check.feedText(y, "o7;" + " ".repeat(247));
        Check.due("feed, full", y.feed('x'), QuietOffice.FULL);
        Check.due("feed, full and outside", y.feed(256), QuietOffice.OUTSIDE);
        Check.due("what was refused is not read", y.office(), 0);
        Check.due("funds", y.told(4), 7);
        Check.due("there is room again", y.feed('o'), 1);
    }

    /** Promise 3: "THE TEXT (it is empty then, with a FAULT, too)". */
    private static void theTextIsEmptyBehindOffice() {
        QuietOffice x = new QuietOffice();
        Check.feedText(x, "o5;");
        x.office();
        Check.due("letters behind a good text", x.told(2), 0);
        Check.feedText(x, "o5;x");
        Check.due("office() with a fault", x.office(), -11);
        Check.due("letters behind a fault", x.told(2), 0);
        Check.due("the first letter anew", x.feed('o'), 1);
        Check.feedText(x, "6;");
        Check.due("nothing of the old text is read", x.office(), 0);
        Check.due("funds", x.told(4), 6);
    }

    /** Section 1: "An empty text (or of blanks alone): no OFFICE, FUNDS 0." */
    private static void anEmptyTextIsNoOffice() {
        for (int blanks : new int[] {0, 1, 2, 249, 250}) {
            QuietOffice x = Check.officeOf("o9;" + LIFE + POLICY);
            x.day(3);
            x.fund(999);
            Check.feedText(x, " ".repeat(blanks));
            Check.due("office() of blanks", x.office(), 0);
            Check.due("fault() of blanks", x.fault(), FINE);
            for (int what = 0; what <= 12; what++) {
                Check.due(blanks + " blanks, told(" + what + ")", x.told(what), what == 7 ? QuietOffice.NONE : 0);
            }
            Check.due("no life", x.life(0, 0), QuietOffice.UNKNOWN);
            Check.due("no policy", x.policy(0, 0), QuietOffice.UNKNOWN);
        }
        read("\t", -11, 0);
        read(" \u00a0", -11, 1);
    }

    /** Section 1: "NUMBERS have one to three figures"; fault 2: "a NUMBER of four figures or more". */
    private static void numbersHaveOneToThreeFigures() {
        read("o;", -11, 1);
        read("o0;", 0, FINE);
        read("o00;", 0, FINE);
        read("o000;", 0, FINE);
        read("o0000;", -12, 1);
        read("o00000;", -12, 1);
        read("o0001;", -12, 1);
        Check.due("o1", read("o1;", 0, FINE).told(4), 1);
        Check.due("o12", read("o12;", 0, FINE).told(4), 12);
        Check.due("o123", read("o123;", 0, FINE).told(4), 123);
        Check.due("o012", read("o012;", 0, FINE).told(4), 12);
        read("o1234;", -12, 1);
        read("o  1234", -12, 3);
        read("o1;l1 2 3 4 0001;", -12, 12);
    }

    /** As above, where a value would come round to a good one by 2 to the 8, 16, 32 or 64. */
    private static void longNumbersDoNotWrapAround() {
        String[] round = {"1001", "65537", "4294967297", "4294967296", "18446744073709551617", "1" + "0".repeat(64),
            "0".repeat(240), "9".repeat(245)};
        for (String number : round) {
            read("o" + number + ";", -12, 1);
        }
        read("o1;l257 1 1 1 0;", -12, 4);
        read("o1;l1 1 1 1 256;", -12, 12);
        read("o1;" + LIFE + "p256 1 1 1 1;", -12, 15);
        read("o1;" + LIFE + "p0 257 1 1 1;", -12, 17);
    }

    /** Section 1: the bounds of F, Qk, H, S, D, A, P; fault 2: "or out of its bounds", at its first letter. */
    private static void everyNumberHasItsBounds() {
        for (int v = 0; v <= 1001; v++) {
            QuietOffice x = number("o", v, ";", 0, 999);
            Check.due("F " + v, x.told(4), v <= 999 ? v : 0);
            lifeNumber("o1;l", v, " 2 3 4 0;", 0, 200);
            lifeNumber("o1;l1 ", v, " 3 4 0;", 1, 200);
            lifeNumber("o1;l1 2 ", v, " 4 0;", 2, 200);
            lifeNumber("o1;l1 2 3 ", v, " 0;", 3, 200);
            lifeNumber("o1;l1 2 3 4 ", v, ";", 4, 2);
            policyNumber("p0 ", v, " 3 4 5;", 1, 1, 15);
            policyNumber("p0 2 ", v, " 4 5;", 2, 1, 30);
            policyNumber("p0 2 3 ", v, " 5;", 3, 0, 999);
            policyNumber("p0 2 3 4 ", v, ";", 4, 0, 999);
        }
    }

    private static QuietOffice number(String ahead, int v, String behind, int least, int most) {
        boolean isGood = v >= least && v <= most;
        int policies = ahead.indexOf('p') < 0 ? 0 : 1;
        return read(ahead + v + behind, isGood ? policies : -12, isGood ? FINE : ahead.length());
    }

    private static void lifeNumber(String ahead, int v, String behind, int what, int most) {
        QuietOffice x = number(ahead, v, behind, 0, most);
        Check.due("life, number " + what + ", " + v, x.life(0, what), v <= most ? v : QuietOffice.UNKNOWN);
    }

    private static void policyNumber(String ahead, int v, String behind, int what, int least, int most) {
        QuietOffice x = number("o1;" + LIFE + ahead, v, behind, least, most);
        boolean isGood = v >= least && v <= most;
        Check.due("policy, number " + what + ", " + v, x.policy(0, what), isGood ? v : QuietOffice.UNKNOWN);
    }

    /** Section 1: "on LIFE L told ahead"; fault 2: "a LIFE that was not told yet (at its first)". */
    private static void aLifeMustBeToldAhead() {
        for (int lives = 0; lives <= 4; lives++) {
            for (int l = 0; l <= 12; l++) {
                String ahead = "o1;" + LIFE.repeat(lives) + "p";
                QuietOffice x = read(ahead + l + " 1 1 1 1;", l < lives ? 1 : -12, l < lives ? FINE : ahead.length());
                Check.due("its life", x.policy(0, 0), l < lives ? l : QuietOffice.UNKNOWN);
            }
        }
        read("o1;" + LIFE + "p1 1 1 1 1;" + LIFE, -12, 15);
        read("o1;" + LIFE + POLICY + LIFE + "p1 1 1 1 1;", 2, FINE);
        read("o1;" + LIFE + "p 999 1 1 1 1;", -12, 16);
    }

    /** Section 1: "a word is one letter". */
    private static void aWordIsOneLetter() {
        read("oo1;", -11, 1);
        read("o1;ll1 2 3 4 0;", -11, 4);
        read("o1;" + LIFE + "pp0 1 1 1 1;", -11, 15);
        read("o1;;", -11, 3);
        read("O1;", -11, 0);
        read("o1;L1 2 3 4 0;", -11, 3);
        read("o1;" + LIFE + "P0 1 1 1 1;", -11, 14);
    }

    /** Fault 1: "it cannot stand there (a letter that is no word, another word first than 'o')". */
    private static void everyLetterAtEveryKindOfPlace() {
        for (int letter = 0; letter <= 255; letter++) {
            char c = (char) letter;
            boolean isFigure = c >= 48 && c <= 57;
            boolean isBlank = c == 32;
            read("" + c, isBlank ? 0 : -11, isBlank ? FINE : c == 'o' ? 1 : 0);
            boolean isWord = c == 'l' || c == 'p';
            read("o1;" + c, isBlank ? 0 : c == 'o' ? -13 : -11, isBlank ? FINE : isWord ? 4 : 3);
            read("o" + c, -11, isFigure || isBlank ? 2 : 1);
            read("o" + c + "1;", isFigure || isBlank ? 0 : -11, isFigure || isBlank ? FINE : 1);
            read("o1" + c, c == ';' ? 0 : -11, c == ';' ? FINE : isFigure || isBlank ? 3 : 2);
            read("o1" + c + ";", isFigure || isBlank ? 0 : -11, isFigure || isBlank ? FINE : c == ';' ? 3 : 2);
            read("o1;l1" + c + "2 3 4 0;", isBlank ? 0 : -11, isBlank ? FINE : isFigure ? 13 : 5);
        }
    }

    /** Section 1: "blanks (32) may stand anywhere but within NUMBERS". */
    private static void blanksMayStandAnywhere() {
        String[] parts = {"o", "98", ";", "l", "11", " ", "12", " ", "13", " ", "14", " ", "1", ";",
            "p", "0", " ", "15", " ", "30", " ", "97", " ", "96", ";"};
        for (int place = 0; place <= parts.length; place++) {
            for (int blanks = 0; blanks <= 3; blanks++) {
                StringBuilder text = new StringBuilder();
                for (int i = 0; i <= parts.length; i++) {
                    text.append(i == place ? " ".repeat(blanks) : "").append(i < parts.length ? parts[i] : "");
                }
                QuietOffice x = read(text.toString(), 1, FINE);
                Check.due("funds", x.told(4), 98);
                Check.due("odds", x.life(0, 3), 28);
                Check.due("premium", x.policy(0, 4), 96);
            }
        }
        for (char beside : new char[] {31, 33, 9, 10, 13, 160}) {
            read(beside + "o1;", -11, 0);
            read("o" + beside + "1;", -11, 1);
            read("o1;" + beside, -11, 3);
        }
    }

    /** As above: "but within NUMBERS". */
    private static void noBlankStandsWithinANumber() {
        read("o1 2;", -11, 3);
        read("o1 23;", -11, 3);
        read("o12 3;", -11, 4);
        read("o1  2;", -11, 4);
        read("o1;l1 2 3 4 0 0;", -11, 14);
        read("o1;" + LIFE + "p0 1 1 1 1 1;", -11, 25);
    }

    /** Section 1: "two NUMBERS side by side need one". */
    private static void numbersSideBySideNeedABlank() {
        read("o1;l1 2 3 40;", -11, 12);
        read("o1;l1 2 3 4 0;", 0, FINE);
        read("o1;l1 2 3 4  0;", 0, FINE);
        read("o1;l12340;", -12, 4);
        read("o1;" + LIFE + "p01 1 1 1;", -12, 15);
        read("o1;" + LIFE + "p00 1 1 1;", -11, 23);
        read("o1;" + LIFE + "p0 1 1 11;", -11, 23);
    }

    /** Section 1: "(FUNDS F, 0 .. 999; first, once)"; fault 3: "'o' again", "(at it)". */
    private static void theOfficeIsFirstAndOnce() {
        read("o1;", 0, FINE);
        read("o1;o1;", -13, 3);
        read("o1; o", -13, 4);
        read("o1;" + LIFE + "o", -13, 14);
        read("o1;" + LIFE + POLICY + "o2;", -13, 25);
        read(LIFE + "o1;", -11, 0);
        read(" p0 1 1 1 1;o1;", -11, 1);
    }

    /** Section 1: "4 LIVES at most"; fault 3: "a fifth 'l'", "(at it)". */
    private static void fourLivesAtMost() {
        for (int lives = 3; lives <= 5; lives++) {
            QuietOffice x = read("o1;" + LIFE.repeat(lives), lives <= 4 ? 0 : -13, lives <= 4 ? FINE : 47);
            Check.due("lives", x.told(0), lives <= 4 ? lives : 0);
        }
        read("o1;" + LIFE.repeat(4) + "l", -13, 47);
        read("o1;" + LIFE.repeat(4) + POLICY + " l999", -13, 59);
        QuietOffice x = read("o1;" + LIFE.repeat(4), 0, FINE);
        Check.due("the last", x.life(3, 3), 4);
        Check.due("no fifth", x.life(4, 3), QuietOffice.UNKNOWN);
    }

    /** Section 1: "6 POLICIES at most"; fault 3: "a seventh 'p' (at it)". */
    private static void sixPoliciesAtMost() {
        for (int policies = 5; policies <= 7; policies++) {
            boolean isGood = policies <= 6;
            QuietOffice x = read("o1;" + LIFE + POLICY.repeat(policies), isGood ? policies : -13, isGood ? FINE : 80);
            Check.due("policies", x.told(1), isGood ? policies : 0);
        }
        read("o1;" + LIFE + POLICY.repeat(6) + "p", -13, 80);
        read("o1;" + LIFE + POLICY.repeat(6) + LIFE + "p9", -13, 91);
        QuietOffice x = read("o1;" + LIFE + POLICY.repeat(6), 6, FINE);
        Check.due("the last", x.policy(5, 4), 1);
        Check.due("no seventh", x.policy(6, 4), QuietOffice.UNKNOWN);
    }

    /** Section 1: "FAULTS, at the first letter that has one". */
    private static void theFirstLetterWithAFaultCounts() {
        read("o1000;o1;x", -12, 1);
        read("o1;o1000;x", -13, 3);
        read("o1;x;o1000;", -11, 3);
        read("o1;l201 x", -12, 4);
        read("o1;lx 201", -11, 4);
        read("o1;l1 201 1 1 3;", -12, 6);
        read("o1;p0 0 0 1000 1000;", -12, 4);
        read("o1;" + LIFE + "p0 1 31 1000 1000;", -12, 19);
        read("o1;l1 1 1 200 3", -12, 14);
        read("o999x;", -11, 4);
        // The place of a wrong number is its first letter, though a later one tells that it is wrong.
        read("o1000x;", -12, 1);
    }

    /** Section 1: "of these the least". */
    private static void ofTheFaultsOfALetterTheLeast() {
        // A number of four figures where no number can stand.
        read("1000", -11, 0);
        read("o1;1000", -11, 3);
        read("o1 1000;", -11, 3);
        // A word that comes too often, where no word can stand.
        read("o1o", -11, 2);
        read("oo", -11, 1);
        read("o1;" + LIFE.repeat(4) + "p0 l", -11, 50);
        read("o1;" + LIFE + POLICY.repeat(5) + "p0 1 1 1 1 p", -11, 80);
    }

    /** Section 1: "(the end at the text's length)". */
    private static void theEndIsAtTheTextsLength() {
        String whole = "o1;l1 2 3 4 0;p0 1 1 1 1;";
        for (int length = 1; length <= whole.length(); length++) {
            boolean isWhole = whole.charAt(length - 1) == ';';
            int policies = length == whole.length() ? 1 : 0;
            read(whole.substring(0, length), isWhole ? policies : -11, isWhole ? FINE : length);
            read(whole.substring(0, length) + "  ", isWhole ? policies : -11, isWhole ? FINE : length + 2);
        }
        read("o1" + " ".repeat(247), -11, 249);
        read("o1" + " ".repeat(248), -11, 250);
        read("o" + " ".repeat(249), -11, 250);
    }

    /** Terms: "What has a number has it from 0 on, as it comes." */
    private static void numbersComeFrom0On() {
        QuietOffice x = read("o1;l11 0 0 0 0;l12 0 0 0 0;p1 1 1 21 0;l13 0 0 0 0;p0 1 1 22 0;p2 1 1 23 0;", 3, FINE);
        for (int i = 0; i < 3; i++) {
            Check.due("life " + i, x.life(i, 0), 11 + i);
            Check.due("policy " + i, x.policy(i, 3), 21 + i);
            Check.due("its life", x.policy(i, 0), new int[] {1, 0, 2}[i]);
        }
    }

    /** Section 1 as a whole: good texts with a few letters changed, read in another way. */
    private static void drawnTextsAsAnotherReaderReadsThem() {
        Random random = new Random(6L);
        String[] letters = {"o", "l", "p", ";", " ", "0", "1", "2", "3", "9", "x", "20", "1000", "l1 2 3 4 0;", "p0 1 1 1 1;"};
        for (int i = 0; i < 20000; i++) {
            StringBuilder text = new StringBuilder("o" + random.nextInt(1000) + ";" + LIFE.repeat(random.nextInt(5))
                    + POLICY.repeat(random.nextInt(7)) + LIFE.repeat(random.nextInt(2)));
            for (int changes = random.nextInt(4); changes > 0; changes--) {
                int from = random.nextInt(text.length());
                int to = Math.min(text.length(), from + random.nextInt(2));
                text.replace(from, to, random.nextInt(3) == 0 ? "" : letters[random.nextInt(letters.length)]);
            }
            if (text.length() <= 250) {
                int[] due = readAnotherWay(text.toString());
                read(text.toString(), due[0], due[1]);
            }
        }
    }

    private static int[] readAnotherWay(String text) {
        Matcher word = Pattern.compile(" *(.?)", Pattern.DOTALL).matcher(text);
        Matcher figures = Pattern.compile(" *([0-9]*)").matcher(text);
        int[] counts = new int[3];
        int place = 0;
        for (int clause = 0; ; clause++) {
            word.find(place);
            if (word.group(1).isEmpty()) {
                return new int[] {counts[2], FINE};
            }
            int kind = "olp".indexOf(word.group(1));
            if (kind < 0 || clause == 0 && kind > 0) {
                return new int[] {-11, word.start(1)};
            }
            if (counts[kind] == new int[] {1, 4, 6}[kind]) {
                return new int[] {-13, word.start(1)};
            }
            place = word.end();
            for (int i = 0; i < (kind == 0 ? 1 : 5); i++) {
                figures.find(place);
                if (figures.group(1).isEmpty()) {
                    return new int[] {-11, figures.start(1)};
                }
                if (!isGood(figures.group(1), kind, i, counts[1])) {
                    return new int[] {-12, figures.start(1)};
                }
                place = figures.end();
            }
            word.find(place);
            if (!word.group(1).equals(";")) {
                return new int[] {-11, word.start(1)};
            }
            place = word.end();
            counts[kind]++;
        }
    }

    private static boolean isGood(String figures, int kind, int i, int lives) {
        if (figures.length() > 3) {
            return false;
        }
        int[] bounds = kind == 0 ? new int[] {0, 999} : kind == 1 ? BOUNDS_OF_LIFE[i] : BOUNDS_OF_POLICY[i];
        int value = Integer.parseInt(figures);
        boolean isALife = kind != 2 || i > 0 || value < lives;
        return value >= bounds[0] && value <= bounds[1] && isALife;
    }

    /** Promise 4: "The place (from 0 on) of the letter that has the FAULT of the latest office(); NONE." */
    private static void faultIsOfTheLatestOffice() {
        QuietOffice x = new QuietOffice();
        Check.due("none yet", x.fault(), QuietOffice.NONE);
        Check.feedText(x, "x");
        Check.due("none until it is read", x.fault(), QuietOffice.NONE);
        x.office();
        Check.due("from 0 on", x.fault(), 0);
        Check.feedText(x, "o1;x");
        Check.due("the latest read", x.fault(), 0);
        x.office();
        Check.due("anew", x.fault(), 3);
        x.day(1);
        Check.due("it stays", x.fault(), 3);
        Check.feedText(x, "o1;");
        x.office();
        Check.due("no fault", x.fault(), QuietOffice.NONE);
        Check.feedText(x, "o1000");
        x.office();
        Check.due("a fault again", x.fault(), 1);
        x.office();
        Check.due("an empty text has none", x.fault(), QuietOffice.NONE);
    }

    private static QuietOffice lived() {
        QuietOffice x = Check.officeOf(Check.TWO_LIVES);
        x.seed(77);
        x.event(0, 3);
        x.drift(2);
        x.keep(1);
        x.day(6);
        x.lapse(2, true);
        x.habit(1, 2);
        x.event(1, 5);
        x.event(0, 9);
        x.fund(3);
        x.witness(6);
        x.ledger(x.told(4));
        x.write(x.told(4));
        return x;
    }

    /** Promise 3: "-10 less the number of its FAULT (all else is as it was)". */
    private static void aFaultLeavesAllElse() {
        String[] texts = {"o5;l9 9 9 9 2;p0 9 9 9 9;x", "o5;l9 9 9 9 2;p0 9 9 9 1000;", "o5;l9 9 9 9 2;p0 9 9 9 9;o"};
        for (int i = 0; i < texts.length; i++) {
            QuietOffice x = lived();
            Check.feedText(x, texts[i]);
            Check.due("office() of " + texts[i], x.office(), -11 - i);
            Check.so("all else is as it was, " + texts[i], Look.withoutText(x).equals(Look.withoutText(lived())));
        }
    }

    /** Promise 3: "(day 0, nothing PAID, no RUIN; no WITNESSES, no LEDGER, no BOOK; IMAGES, DAYS ... THE SEED stays)". */
    private static void anOfficeClearsTheRest() {
        QuietOffice x = lived();
        int seed = x.seed(0);
        x.seed(seed);
        Check.so("there was a ruin", x.told(7) > 0);
        Check.so("there was a quiet", x.policy(0, 5) > 0);
        Check.feedText(x, "o9;l1 2 3 4 1;p0 1 2 3 4;");
        Check.due("office", x.office(), 1);
        int[] due = {1, 1, 0, 0, 9, 0, 0, -1, 0, 0, 0, 0, 0};
        for (int what = 0; what < due.length; what++) {
            Check.due("told(" + what + ") anew", x.told(what), due[what]);
        }
        Check.due("events", x.life(0, 5), 0);
        Check.due("habit", x.life(0, 4), 1);
        Check.due("quiet", x.policy(0, 5), 0);
        Check.due("the second life is gone", x.life(1, 0), QuietOffice.UNKNOWN);
        Check.due("the second policy is gone", x.policy(1, 0), QuietOffice.UNKNOWN);
        Check.due("undo", x.undo(1), QuietOffice.NOT);
        Check.due("image 0", x.goBack(0), QuietOffice.NOT);
        Check.due("image 1", x.goBack(1), QuietOffice.NOT);
        Check.due("seed", x.seed(0), seed);
        Check.due("fewest", x.fewest(2, 0), QuietOffice.NONE);
        Check.due("befell", x.befell(0, -1), 1);
        Check.due("judge", x.judge(), QuietOffice.NONE);
    }

    /** Promise 3: THE TEXT becomes THE OFFICE: a smaller one answers as if there had never been a greater. */
    private static void nothingOfTheLastOfficeIsLeft() {
        String[] texts = {"", "o3;", "o3;l1 2 3 4 0;", "o3;l1 2 3 4 0;p0 1 2 3 4;", "o3;l0 0 0 0 0;p0 8 30 3 4;",
            "o3;l1 2 3 4 1;l5 6 7 8 2;p1 1 2 3 4;p0 15 1 1 0;"};
        for (String text : texts) {
            QuietOffice x = Check.officeOf("o0;" + "l200 200 200 200 2;".repeat(4) + "p0 15 1 999 999;".repeat(6));
            x.drift(5);
            x.seed(9);
            Check.feedText(x, text);
            QuietOffice y = new QuietOffice();
            y.seed(9);
            Check.feedText(y, text);
            Check.due("office() behind a greater one", x.office(), y.office());
            String[] answers = answers(x);
            String[] due = answers(y);
            for (int i = 0; i < due.length; i++) {
                Check.so("'" + text + "': " + answers[i] + " and not " + due[i], answers[i].equals(due[i]));
            }
            Check.so("'" + text + "': all is alike", Look.at(x).equals(Look.at(y)));
        }
    }

    private static String[] answers(QuietOffice x) {
        x.ledger(3);
        x.write(3);
        StringBuilder text = new StringBuilder();
        text.append("soonest ").append(x.soonest()).append(", judge ").append(x.judge());
        for (int n = 1; n <= 3; n++) {
            text.append(", needs ").append(x.needs(n)).append(", keep ").append(x.keepWhich(n, 0));
            text.append(", keep which ").append(x.keepWhich(n, 1)).append(", calm ").append(x.calm(0, n));
            text.append(", pays ").append(x.pays(0, n));
        }
        for (int l = 0; l < 4; l++) {
            text.append(", choose ").append(x.choose(l)).append(", befell ").append(x.befell(l, -1));
            text.append(", sure ").append(x.sure(l)).append(", fair ").append(x.fair(l));
            for (int kind = 0; kind < 4; kind++) {
                text.append(", fires ").append(x.fires(l, kind, 9, 0)).append(", first ").append(x.fires(l, kind, 9, 1));
            }
        }
        for (int kind = 0; kind < 4; kind++) {
            text.append(", struck ").append(x.struck(kind, 0)).append(", which ").append(x.struck(kind, 1));
            text.append(", how many ").append(x.struck(kind, 2));
        }
        text.append(", drift ").append(x.drift(2)).append(", seed ").append(x.seed(1));
        return text.toString().split(", ");
    }
}
