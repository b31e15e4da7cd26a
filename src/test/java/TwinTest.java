import java.util.Random;

/**
 * Drawn offices: what a call says would be is held against what is, on another object that lives it.
 * Some of these live through more than the 512 calls that are promised; the class knows no such bound.
 */
public final class TwinTest {
    private static final Random RANDOM = new Random(20261118L);

    public static void main(String[] args) {
        for (int i = 0; i < 300; i++) {
            String text = drawnText();
            long way = RANDOM.nextLong();
            ruinComes(text, way);
            needsAreLeast(text, way);
            keptAreBest(text, way);
            firesAreFewest(text, way);
            rowsFit(text, way);
            undoIsExact(text, way);
        }
        for (int i = 0; i < 200; i++) {
            anyCallAnswers();
        }
        Check.end();
    }

    private static int upTo(int most) {
        return RANDOM.nextInt(most + 1);
    }

    private static String drawnText() {
        StringBuilder text = new StringBuilder("o" + upTo(200) + ";");
        int lives = 1 + upTo(2);
        for (int l = 0; l < lives; l++) {
            text.append("l").append(upTo(200)).append(" ").append(upTo(200)).append(" ").append(upTo(20))
                    .append(" ").append(upTo(5)).append(" ").append(upTo(2)).append(";");
        }
        int policies = upTo(6);
        for (int p = 0; p < policies; p++) {
            text.append("p").append(upTo(lives - 1)).append(" ").append(1 + upTo(14)).append(" ")
                    .append(1 + upTo(5)).append(" ").append(upTo(40)).append(" ").append(upTo(3)).append(";");
        }
        return text.toString();
    }

    /** The same way for the same number, so that twins stand alike. */
    private static QuietOffice walked(String text, long way) {
        QuietOffice x = Check.officeOf(text);
        Random steps = new Random(way);
        for (int i = 0; i < 6; i++) {
            x.event(steps.nextInt(4), steps.nextInt(16));
            if (steps.nextBoolean()) {
                x.day(1 + steps.nextInt(4));
            }
            x.lapse(steps.nextInt(12), steps.nextBoolean());
            x.habit(steps.nextInt(4), steps.nextInt(3));
            x.fund(steps.nextInt(40));
        }
        return x;
    }

    private static QuietOffice walkedWithoutEvents(String text, long way) {
        QuietOffice x = walked(text, way);
        for (int l = 0; l < x.told(0); l++) {
            x.event(l, 0);
        }
        return x;
    }

    /** Told sums tell of a ruin better than the day of the first one, which may be past. */
    private static boolean isRuinedBy(QuietOffice x, int n) {
        int funds = x.told(4);
        for (int i = 0; i < n; i++) {
            int need = 0;
            for (int p = 0; p < x.told(1); p++) {
                boolean goesOn = (x.told(8) >> p & 1) == 0;
                need += goesOn && x.policy(p, 5) + 1 == x.policy(p, 2) ? x.policy(p, 3) : 0;
            }
            if (need > funds) {
                return true;
            }
            funds = x.day(1);
        }
        return false;
    }

    private static void ruinComes(String text, long way) {
        int soonest = walked(text, way).soonest();
        if (soonest == QuietOffice.NONE) {
            Check.due("no ruin, " + text, isRuinedBy(walkedWithoutEvents(text, way), 999) ? 1 : 0, 0);
            return;
        }
        Check.due("ruin, " + text, isRuinedBy(walkedWithoutEvents(text, way), soonest) ? 1 : 0, 1);
        Check.due("no ruin ahead, " + text, isRuinedBy(walkedWithoutEvents(text, way), soonest - 1) ? 1 : 0, 0);
    }

    private static void needsAreLeast(String text, long way) {
        int n = 1 + upTo(98);
        QuietOffice x = walkedWithoutEvents(text, way);
        int needs = x.needs(n);
        int paid = x.told(5);
        for (int i = 0; i < 60; i++) {
            x.fund(999);
        }
        x.day(n);
        Check.due("needs(" + n + "), " + text, needs, x.told(5) - paid);
    }

    private static void keptAreBest(String text, long way) {
        int n = 1 + upTo(15);
        QuietOffice x = walkedWithoutEvents(text, way);
        int policies = x.told(1);
        int lapsed = x.told(8);
        int bestSum = -1;
        int best = 0;
        x.keep(0);
        for (int set = 0; set < 1 << policies; set++) {
            if ((set & lapsed) != 0) {
                continue;
            }
            x.goBack(0);
            int sum = 0;
            for (int p = 0; p < policies; p++) {
                x.lapse(p, (set >> p & 1) == 0);
                sum += (set >> p & 1) == 0 ? 0 : x.policy(p, 4);
            }
            boolean isBetter = sum > bestSum || sum == bestSum && Integer.bitCount(set) < Integer.bitCount(best);
            if (isBetter && !isRuinedBy(x, n)) {
                bestSum = sum;
                best = set;
            }
        }
        QuietOffice y = walked(text, way);
        Check.due("keepWhich(" + n + ", 0), " + text, y.keepWhich(n, 0), bestSum);
        Check.due("keepWhich(" + n + ", 1), " + text, y.keepWhich(n, 1), best);
    }

    /** All sets of days with fires are lived through; a policy has paid if its quiet fell without a fire. */
    private static void firesAreFewest(String text, long way) {
        QuietOffice x = walkedWithoutEvents(text, way);
        int l = upTo(x.told(0) - 1);
        int kind = upTo(3);
        int n = 1 + upTo(6);
        int fewest = 99;
        int first = 0;
        x.keep(0);
        for (int days = 0; days < 1 << n; days++) {
            x.goBack(0);
            if (Integer.bitCount(days) > fewest || paysInSpite(x, l, kind, n, days)) {
                continue;
            }
            int itsFirst = days == 0 ? QuietOffice.NONE : Integer.numberOfTrailingZeros(days) + 1;
            first = Integer.bitCount(days) < fewest ? itsFirst : Math.max(first, itsFirst);
            fewest = Integer.bitCount(days);
        }
        QuietOffice y = walked(text, way);
        Check.due("fires, " + text, y.fires(l, kind, n, 0), fewest);
        Check.due("first fire, " + text, y.fires(l, kind, n, 1), first);
    }

    private static boolean paysInSpite(QuietOffice x, int l, int kind, int n, int days) {
        for (int i = 0; i < n; i++) {
            boolean burns = (days >> i & 1) != 0;
            x.event(l, burns ? 1 << kind : 0);
            x.day(1);
            for (int p = 0; p < x.told(1); p++) {
                boolean isLit = x.policy(p, 0) == l && (x.policy(p, 1) >> kind & 1) != 0 && (x.told(8) >> p & 1) == 0;
                if (isLit && !burns && x.policy(p, 5) == 0) {
                    return true;
                }
            }
        }
        return false;
    }

    private static void rowsFit(String text, long way) {
        QuietOffice x = walkedWithoutEvents(text, way);
        int l = upTo(x.told(0) - 1);
        int lines = 1 + upTo(1);
        int[] funds = new int[lines];
        x.keep(0);
        for (int i = 0; i < lines; i++) {
            x.event(l, upTo(15) & upTo(15));
            funds[i] = x.day(1);
        }
        int rows = 0;
        int sure = 15;
        int[] first = new int[lines];
        for (int row = 0; row < 1 << (4 * lines); row++) {
            x.goBack(0);
            boolean fits = true;
            int kinds = 0;
            for (int i = 0; i < lines; i++) {
                int set = row >> (4 * (lines - 1 - i)) & 15;
                kinds |= set;
                x.event(l, set);
                fits &= x.day(1) == funds[i];
            }
            sure &= fits ? kinds : 15;
            rows += fits ? 1 : 0;
            if (rows == 1 && fits) {
                for (int i = 0; i < lines; i++) {
                    first[i] = row >> (4 * (lines - 1 - i)) & 15;
                }
            }
        }
        QuietOffice y = walked(text, way);
        for (int i = 0; i < lines; i++) {
            y.ledger(funds[i]);
        }
        Check.due("befell, " + text, y.befell(l, QuietOffice.NONE), rows);
        Check.due("sure, " + text, y.sure(l), sure);
        for (int i = 0; i < lines; i++) {
            Check.due("befell(" + i + "), " + text, y.befell(l, i), first[i]);
        }
    }

    private static void undoIsExact(String text, long way) {
        QuietOffice x = walked(text, way);
        QuietOffice twin = walked(text, way);
        int n = 1 + upTo(29);
        x.day(n);
        x.fund(3);
        x.undo(n);
        for (int what = 0; what <= 11; what++) {
            Check.due("told(" + what + ") undone, " + text, x.told(what), twin.told(what));
        }
        for (int p = 0; p < x.told(1); p++) {
            Check.due("quiet undone, " + text, x.policy(p, 5), twin.policy(p, 5));
        }
        for (int l = 0; l < x.told(0); l++) {
            Check.due("events undone, " + text, x.life(l, 5), twin.life(l, 5));
            Check.due("habit undone, " + text, x.life(l, 4), twin.life(l, 4));
        }
        Check.due("goes on alike, " + text, x.day(9), twin.day(9));
    }

    private static int any() {
        int[] edges = {Integer.MIN_VALUE, -2, -1, 0, 1, 2, 3, 4, 5, 6, 15, 16, 30, 60, 99, 100, 999, Integer.MAX_VALUE};
        return edges[upTo(edges.length - 1)];
    }

    private static void anyCallAnswers() {
        QuietOffice x = upTo(3) == 0 ? new QuietOffice() : Check.officeOf(drawnText());
        for (int i = 0; i < 400; i++) {
            anyCall(x, upTo(33));
        }
        for (int what = 0; what <= 12; what++) {
            Check.due("told(" + what + ") is in its bounds", x.told(what) >= (what == 7 ? -1 : 0) ? 1 : 0, 1);
        }
    }

    private static int anyCall(QuietOffice x, int which) {
        switch (which) {
            case 0: return x.feed("olp; 0123456789".charAt(upTo(14)));
            case 1: return upTo(20) == 0 ? x.office() : x.fault();
            case 2: return x.fault();
            case 3: return x.told(any());
            case 4: return x.life(any(), any());
            case 5: return x.policy(any(), any());
            case 6: return x.event(any(), any());
            case 7: return x.day(any());
            case 8: return x.drift(any());
            case 9: return x.fund(any());
            case 10: return x.habit(any(), any());
            case 11: return x.lapse(any(), RANDOM.nextBoolean());
            case 12: return x.undo(any());
            case 13: return x.calm(any(), any());
            case 14: return x.fair(any());
            case 15: return x.pays(any(), any());
            case 16: return x.soonest();
            case 17: return x.needs(any());
            case 18: return x.keepWhich(any(), any());
            case 19: return x.choose(any());
            case 20: return x.fires(any(), any(), any(), any());
            case 21: return x.struck(any(), any());
            case 22: return x.witness(any());
            case 23: return x.fewest(any(), any());
            case 24: return x.ledger(any());
            case 25: return x.befell(any(), any());
            case 26: return x.sure(any());
            case 27: return x.write(any());
            case 28: return x.judge();
            case 29: return x.tear();
            case 30: return x.seed(any());
            case 31: return x.keep(any());
            default: return x.goBack(any());
        }
    }
}
