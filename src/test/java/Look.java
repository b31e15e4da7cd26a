import java.util.ArrayList;
import java.util.List;

/**
 * All that an object shows: what it tells now, then what lies behind each day undone, each image, and the text.
 * It uses the object up. Two objects that show the same are taken to be alike.
 */
final class Look {
    private static final int UNDONE_ONE_BY_ONE = 3;

    private final QuietOffice x;
    private final List<String> seen = new ArrayList<>();
    private String at = "now";

    private Look(QuietOffice x) {
        this.x = x;
    }

    static List<String> at(QuietOffice x) {
        Look look = new Look(x);
        look.now();
        look.daysUndone();
        look.images();
        look.text();
        return look.seen;
    }

    /** As at, but for the text and its fault, which a call of office() with a fault changes. */
    static List<String> withoutText(QuietOffice x) {
        Look look = new Look(x);
        look.law();
        look.moved();
        look.whatWasSeen();
        look.daysUndone();
        look.images();
        return look.seen;
    }

    private void see(String call, int answer) {
        seen.add(at + ": " + call + " = " + answer);
    }

    private void now() {
        see("fault()", x.fault());
        see("told(2)", x.told(2));
        law();
        moved();
        whatWasSeen();
    }

    private void law() {
        see("told(0)", x.told(0));
        see("told(1)", x.told(1));
        for (int l = 0; l < x.told(0); l++) {
            for (int k = 0; k < 4; k++) {
                see("life(" + l + ", " + k + ")", x.life(l, k));
            }
        }
        for (int p = 0; p < x.told(1); p++) {
            for (int what = 0; what < 5; what++) {
                see("policy(" + p + ", " + what + ")", x.policy(p, what));
            }
        }
    }

    /** All of section 2, with THE SEED. */
    private void moved() {
        for (int what = 3; what <= 8; what++) {
            see("told(" + what + ")", x.told(what));
        }
        see("told(12)", x.told(12));
        for (int l = 0; l < x.told(0); l++) {
            see("life(" + l + ", 4)", x.life(l, 4));
            see("life(" + l + ", 5)", x.life(l, 5));
        }
        for (int p = 0; p < x.told(1); p++) {
            see("policy(" + p + ", 5)", x.policy(p, 5));
        }
        int seed = x.seed(0);
        x.seed(seed);
        see("seed", seed);
    }

    private void whatWasSeen() {
        for (int what = 9; what <= 11; what++) {
            see("told(" + what + ")", x.told(what));
        }
        for (int day = 0; day < 16; day++) {
            see("fewest(" + (1 << day) + ", 1)", x.fewest(1 << day, 1));
        }
        for (int l = 0; l < x.told(0); l++) {
            see("befell(" + l + ", -1)", x.befell(l, -1));
            see("sure(" + l + ")", x.sure(l));
        }
        see("judge()", x.judge());
    }

    private void daysUndone() {
        int days = x.told(12);
        for (int i = 0; i < Math.min(days, UNDONE_ONE_BY_ONE); i++) {
            at = "undone " + (i + 1);
            see("undo(1)", x.undo(1));
            moved();
        }
        if (days > UNDONE_ONE_BY_ONE) {
            at = "undone all";
            see("undo of the rest", x.undo(days - UNDONE_ONE_BY_ONE));
            moved();
        }
    }

    private void images() {
        for (int i = 0; i < 2; i++) {
            at = "image " + i;
            see("goBack(" + i + ")", x.goBack(i));
            moved();
        }
    }

    private void text() {
        at = "text";
        see("office()", x.office());
        see("fault()", x.fault());
        law();
        moved();
    }
}
