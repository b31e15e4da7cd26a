import java.util.function.IntUnaryOperator;

/** What the tests share: an office told by a text, and answers held against those that are due. */
final class Check {
    static final String TWO_LIVES =
            "o100;l100 50 0 20 0;l10 10 10 10 1;p0 3 3 40 9;p0 8 5 30 2;p1 15 2 25 30;p1 1 4 60 7;";
    private static int wrong = 0;
    private static int looked = 0;

    private Check() {
    }

    static void due(String call, int got, int want) {
        looked++;
        if (got != want) {
            wrong++;
            System.out.println(call + " answered " + got + ", due is " + want);
        }
    }

    static void so(String what, boolean is) {
        due(what, is ? 1 : 0, 1);
    }

    static boolean isRefusal(int answer) {
        return answer <= QuietOffice.UNKNOWN && answer >= QuietOffice.FULL;
    }

    /** Refused one below and one above, and far off; not at the two ends, nor one within. */
    static void bounds(String call, IntUnaryOperator asked, int least, int most, int refusal) {
        for (int n : new int[] {Integer.MIN_VALUE, least - 1, most + 1, Integer.MAX_VALUE}) {
            due(call + " of " + n, asked.applyAsInt(n), refusal);
        }
        for (int n : new int[] {least, least + 1, most - 1, most}) {
            so(call + " of " + n + " is answered", !isRefusal(asked.applyAsInt(n)));
        }
    }

    static void feedText(QuietOffice x, String text) {
        for (int i = 0; i < text.length(); i++) {
            x.feed(text.charAt(i));
        }
    }

    static QuietOffice officeOf(String text) {
        QuietOffice x = new QuietOffice();
        feedText(x, text);
        int policies = 0;
        for (int i = 0; i < text.length(); i++) {
            policies += text.charAt(i) == 'p' ? 1 : 0;
        }
        due("office() of " + text, x.office(), policies);
        return x;
    }

    static void end() {
        System.out.println(looked + " answers, " + wrong + " wrong");
        if (wrong != 0) {
            System.exit(1);
        }
    }
}
