/** What the tests share: an office told by a text, and answers held against those that are due. */
final class Check {
    static final String TWO_LIVES =
            "o100;l100 50 0 20 0;l10 10 10 10 1;p0 3 3 40 9;p0 8 5 30 2;p1 15 2 25 30;p1 1 4 60 7;";
    private static int wrong = 0;
    private static int looked = 0;

    private Check() {
    }

    static void due(String call, int got, int want) {
        looked++;
        if (got != want) {
            wrong++;
            System.out.println(call + " answered " + got + ", due is " + want);
        }
    }

    static void feedText(QuietOffice x, String text) {
        for (int i = 0; i < text.length(); i++) {
            x.feed(text.charAt(i));
        }
    }

    static QuietOffice officeOf(String text) {
        QuietOffice x = new QuietOffice();
        feedText(x, text);
        int policies = 0;
        for (int i = 0; i < text.length(); i++) {
            policies += text.charAt(i) == 'p' ? 1 : 0;
        }
        due("office() of " + text, x.office(), policies);
        return x;
    }

    static void end() {
        System.out.println(looked + " answers, " + wrong + " wrong");
        if (wrong != 0) {
            System.exit(1);
        }
    }
}
