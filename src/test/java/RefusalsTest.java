import java.util.ArrayList;
import java.util.List;
import java.util.function.Supplier;
import java.util.function.ToIntFunction;

/**
 * Terms: "What is refused changes nothing"; section 3: "nothing changes by it". Each call is made on an object of its
 * own, which then shows the same as one on which it was not made; then all of them one behind the other on one
 * (which has more than the 512 calls that are promised then; the class knows no such bound).
 */
public final class RefusalsTest {
    private static final int[] FAR = {Integer.MIN_VALUE, Integer.MAX_VALUE};
    private static final int UNKNOWN = QuietOffice.UNKNOWN, OUTSIDE = QuietOffice.OUTSIDE;
    private static final int NOT = QuietOffice.NOT, FULL = QuietOffice.FULL;
    private static final int ANSWERED = 0;

    private final String scene;
    private final Supplier<QuietOffice> make;
    private final List<String> untouched;
    private final List<ToIntFunction<QuietOffice>> calls = new ArrayList<>();

    private RefusalsTest(String scene, Supplier<QuietOffice> make) {
        this.scene = scene;
        this.make = make;
        this.untouched = Look.at(make.get());
        Check.so("twins of " + scene + " are alike", untouched.equals(Look.at(make.get())));
    }

    public static void main(String[] args) {
        busyIsBusy();
        RefusalsTest fresh = new RefusalsTest("new", QuietOffice::new);
        fresh.outsideOfAny();
        fresh.unknownLives(-1, 0, 1);
        fresh.unknownPolicies(-1, 0, 1);
        fresh.due("undo(1)", x -> x.undo(1), NOT);
        fresh.due("goBack(0)", x -> x.goBack(0), NOT);
        fresh.due("goBack(1)", x -> x.goBack(1), NOT);
        fresh.allInARow();
        RefusalsTest busy = new RefusalsTest("busy", RefusalsTest::busy);
        busy.outsideOfAny();
        busy.unknownLives(-1, 2, 3);
        busy.unknownPolicies(-1, 4, 5);
        busy.outsideOfLives();
        busy.outsideOfPolicies();
        busy.notNow();
        busy.allInARow();
        RefusalsTest full = new RefusalsTest("full", RefusalsTest::full);
        full.outsideOfAny();
        full.fullOfAll();
        full.allInARow();
        RefusalsTest late = new RefusalsTest("late", () -> DaysEdgesTest.atDay(90001));
        late.due("day(1)", x -> x.day(1), FULL);
        late.due("day(99)", x -> x.day(99), FULL);
        late.due("drift(1)", x -> x.drift(1), FULL);
        late.due("drift(99)", x -> x.drift(99), FULL);
        late.allInARow();
        for (RefusalsTest each : new RefusalsTest[] {new RefusalsTest("busy, asked", RefusalsTest::busy),
            new RefusalsTest("full, asked", RefusalsTest::full), new RefusalsTest("new, asked", QuietOffice::new)}) {
            each.askedOffice();
            each.askedOdds();
            each.askedTrials();
            each.askedSeen();
            each.allInARow();
        }
        Check.end();
    }

    /** A change of a line of the ledger or of the book shows only where all lines fit. */
    private static void busyIsBusy() {
        QuietOffice x = busy();
        Check.so("rows fit the ledger", x.befell(1, -1) > 0);
        Check.due("the book is right", x.judge(), QuietOffice.NONE);
        Check.due("a ruin was", x.told(7), 4);
        Check.due("days can be undone", x.told(12), 5);
        QuietOffice y = full();
        Check.so("rows fit the full ledger", y.befell(0, -1) > 0);
        Check.due("the full book is right", y.judge(), QuietOffice.NONE);
    }

    /** Lived through, with a ruin, days to undo, one image, and some of all that can be told. */
    private static QuietOffice busy() {
        QuietOffice before = busyBeforeSeen();
        before.event(0, 0);
        before.event(1, 2);
        int stirred = before.day(1);
        QuietOffice quiet = busyBeforeSeen();
        quiet.event(0, 0);
        quiet.event(1, 0);
        QuietOffice x = busyBeforeSeen();
        x.witness(15);
        x.witness(0x8421);
        x.ledger(stirred);
        x.write(quiet.day(1));
        x.write(quiet.day(1));
        Check.feedText(x, "o7;l1 2 3 4 1;p0 3 2 5 6;");
        return x;
    }

    private static QuietOffice busyBeforeSeen() {
        QuietOffice x = Check.officeOf(Check.TWO_LIVES);
        x.seed(5);
        x.event(0, 1);
        x.day(4);
        x.keep(1);
        x.lapse(1, true);
        x.habit(1, 2);
        x.drift(5);
        x.event(1, 6);
        x.event(0, 8);
        x.fund(777);
        return x;
    }

    private static QuietOffice full() {
        QuietOffice x = Check.officeOf("o9;l9 8 7 6 0;p0 1 2 3 4;");
        x.keep(0);
        x.day(40);
        for (int i = 0; i < 8; i++) {
            x.witness(1 << i);
        }
        x.ledger(0);
        x.ledger(0);
        x.ledger(0);
        for (int i = 0; i < 20; i++) {
            x.write(0);
        }
        Check.feedText(x, "o" + " ".repeat(247) + "8;");
        return x;
    }

    private void due(String name, ToIntFunction<QuietOffice> call, int refusal) {
        QuietOffice x = make.get();
        int answer = call.applyAsInt(x);
        if (refusal == ANSWERED) {
            Check.so(scene + ": " + name + " is no refusal but of a life or policy", !Check.isRefusal(answer) || answer == UNKNOWN);
        } else {
            Check.due(scene + ": " + name, answer, refusal);
        }
        compare(name, x);
        calls.add(call);
    }

    private void compare(String name, QuietOffice x) {
        List<String> shown = Look.at(x);
        Check.due(scene + ", behind " + name + ": how much is shown", shown.size(), untouched.size());
        for (int i = 0; i < Math.min(shown.size(), untouched.size()); i++) {
            boolean isAlike = shown.get(i).equals(untouched.get(i));
            Check.so(scene + ", behind " + name + ": " + shown.get(i) + ", was " + untouched.get(i), isAlike);
        }
    }

    private void allInARow() {
        QuietOffice x = make.get();
        for (ToIntFunction<QuietOffice> call : calls) {
            call.applyAsInt(x);
        }
        compare("all of these calls", x);
    }

    private static int[] beside(int least, int most) {
        return new int[] {FAR[0], least - 1, most + 1, FAR[1]};
    }

    /** What is OUTSIDE whatever the object is. */
    private void outsideOfAny() {
        for (int n : beside(0, 255)) {
            due("feed(" + n + ")", x -> x.feed(n), OUTSIDE);
        }
        for (int n : beside(0, 12)) {
            due("told(" + n + ")", x -> x.told(n), OUTSIDE);
        }
        for (int n : beside(1, 99)) {
            due("day(" + n + ")", x -> x.day(n), OUTSIDE);
            due("drift(" + n + ")", x -> x.drift(n), OUTSIDE);
            due("needs(" + n + ")", x -> x.needs(n), OUTSIDE);
        }
        for (int n : beside(0, 999)) {
            due("fund(" + n + ")", x -> x.fund(n), OUTSIDE);
        }
        for (int n : beside(1, 30)) {
            due("undo(" + n + ")", x -> x.undo(n), OUTSIDE);
        }
        for (int n : beside(1, 60)) {
            due("keepWhich(" + n + ", 0)", x -> x.keepWhich(n, 0), OUTSIDE);
        }
        for (int n : beside(0, 1)) {
            due("keepWhich(1, " + n + ")", x -> x.keepWhich(1, n), OUTSIDE);
            due("fewest(1, " + n + ")", x -> x.fewest(1, n), OUTSIDE);
            due("keep(" + n + ")", x -> x.keep(n), UNKNOWN);
            due("goBack(" + n + ")", x -> x.goBack(n), UNKNOWN);
        }
        for (int n : beside(0, 3)) {
            due("struck(" + n + ", 0)", x -> x.struck(n, 0), OUTSIDE);
        }
        for (int n : beside(0, 2)) {
            due("struck(0, " + n + ")", x -> x.struck(0, n), OUTSIDE);
        }
        for (int n : beside(0, 65535)) {
            due("witness(" + n + ")", x -> x.witness(n), OUTSIDE);
            due("fewest(" + n + ", 0)", x -> x.fewest(n, 0), OUTSIDE);
        }
        for (int n : beside(0, 999999)) {
            due("ledger(" + n + ")", x -> x.ledger(n), OUTSIDE);
            due("write(" + n + ")", x -> x.write(n), OUTSIDE);
        }
        due("seed(-1)", x -> x.seed(-1), OUTSIDE);
        due("seed, far below", x -> x.seed(FAR[0]), OUTSIDE);
    }

    private void unknownLives(int below, int above, int far) {
        for (int l : new int[] {FAR[0], below, above, far, FAR[1]}) {
            due("life(" + l + ", 0)", x -> x.life(l, 0), UNKNOWN);
            due("life(" + l + ", 6)", x -> x.life(l, 6), UNKNOWN);
            due("event(" + l + ", 5)", x -> x.event(l, 5), UNKNOWN);
            due("event(" + l + ", 16)", x -> x.event(l, 16), UNKNOWN);
            due("habit(" + l + ", 0)", x -> x.habit(l, 0), UNKNOWN);
            due("habit(" + l + ", 3)", x -> x.habit(l, 3), UNKNOWN);
            due("choose(" + l + ")", x -> x.choose(l), UNKNOWN);
            due("fires(" + l + ", 0, 1, 0)", x -> x.fires(l, 0, 1, 0), UNKNOWN);
            due("fires(" + l + ", 4, 0, 2)", x -> x.fires(l, 4, 0, 2), UNKNOWN);
            due("befell(" + l + ", -1)", x -> x.befell(l, -1), UNKNOWN);
            due("befell(" + l + ", 0)", x -> x.befell(l, 0), UNKNOWN);
            due("sure(" + l + ")", x -> x.sure(l), UNKNOWN);
        }
    }

    private void unknownPolicies(int below, int above, int far) {
        for (int p : new int[] {FAR[0], below, above, far, FAR[1]}) {
            due("policy(" + p + ", 0)", x -> x.policy(p, 0), UNKNOWN);
            due("policy(" + p + ", 6)", x -> x.policy(p, 6), UNKNOWN);
            due("lapse(" + p + ", true)", x -> x.lapse(p, true), UNKNOWN);
            due("lapse(" + p + ", false)", x -> x.lapse(p, false), UNKNOWN);
            due("calm(" + p + ", 1)", x -> x.calm(p, 1), UNKNOWN);
            due("calm(" + p + ", 100)", x -> x.calm(p, 100), UNKNOWN);
            due("fair(" + p + ")", x -> x.fair(p), UNKNOWN);
            due("pays(" + p + ", 1)", x -> x.pays(p, 1), UNKNOWN);
            due("pays(" + p + ", 61)", x -> x.pays(p, 61), UNKNOWN);
        }
    }

    private void outsideOfLives() {
        for (int n : beside(0, 5)) {
            due("life(1, " + n + ")", x -> x.life(1, n), OUTSIDE);
        }
        for (int n : beside(0, 15)) {
            due("event(0, " + n + ")", x -> x.event(0, n), OUTSIDE);
            due("event(1, " + n + ")", x -> x.event(1, n), OUTSIDE);
        }
        for (int n : beside(0, 2)) {
            due("habit(0, " + n + ")", x -> x.habit(0, n), OUTSIDE);
        }
        for (int n : beside(0, 3)) {
            due("fires(0, " + n + ", 1, 0)", x -> x.fires(0, n, 1, 0), OUTSIDE);
        }
        for (int n : beside(1, 99)) {
            due("fires(0, 0, " + n + ", 0)", x -> x.fires(0, 0, n, 0), OUTSIDE);
        }
        for (int n : beside(0, 1)) {
            due("fires(0, 0, 1, " + n + ")", x -> x.fires(0, 0, 1, n), OUTSIDE);
        }
    }

    private void outsideOfPolicies() {
        for (int n : beside(0, 5)) {
            due("policy(3, " + n + ")", x -> x.policy(3, n), OUTSIDE);
        }
        for (int n : beside(0, 99)) {
            due("calm(0, " + n + ")", x -> x.calm(0, n), OUTSIDE);
        }
        for (int n : beside(1, 60)) {
            due("pays(0, " + n + ")", x -> x.pays(0, n), OUTSIDE);
            due("pays(1, " + n + "), lapsed", x -> x.pays(1, n), OUTSIDE);
        }
    }

    private void notNow() {
        due("pays(1, 1), lapsed", x -> x.pays(1, 1), NOT);
        due("pays(1, 60), lapsed", x -> x.pays(1, 60), NOT);
        due("undo(6) of 5", x -> x.undo(6), NOT);
        due("undo(30) of 5", x -> x.undo(30), NOT);
        due("goBack(0), not kept", x -> x.goBack(0), NOT);
    }

    private void fullOfAll() {
        for (int letter : new int[] {0, 'o', ' ', 255}) {
            due("feed(" + letter + ")", x -> x.feed(letter), FULL);
        }
        for (int days : new int[] {0, 256, 65535}) {
            due("witness(" + days + ")", x -> x.witness(days), FULL);
        }
        for (int funds : new int[] {0, 1, 999999}) {
            due("ledger(" + funds + ")", x -> x.ledger(funds), FULL);
            due("write(" + funds + ")", x -> x.write(funds), FULL);
        }
    }

    private void askedOffice() {
        due("fault()", QuietOffice::fault, ANSWERED);
        for (int what = 0; what <= 12; what++) {
            int asked = what;
            due("told(" + what + ")", x -> x.told(asked), ANSWERED);
        }
        for (int what = 0; what <= 5; what++) {
            int asked = what;
            due("life(0, " + what + ")", x -> x.life(0, asked), ANSWERED);
            due("policy(0, " + what + ")", x -> x.policy(0, asked), ANSWERED);
        }
    }

    private void askedOdds() {
        for (int n : new int[] {0, 1, 99}) {
            due("calm(0, " + n + ")", x -> x.calm(0, n), ANSWERED);
        }
        due("fair(0)", x -> x.fair(0), ANSWERED);
        due("pays(0, 1)", x -> x.pays(0, 1), ANSWERED);
        due("pays(0, 60)", x -> x.pays(0, 60), ANSWERED);
        due("choose(0)", x -> x.choose(0), ANSWERED);
        for (int what = 0; what <= 2; what++) {
            int asked = what;
            due("struck(0, " + what + ")", x -> x.struck(0, asked), ANSWERED);
        }
    }

    private void askedTrials() {
        due("soonest()", QuietOffice::soonest, ANSWERED);
        due("needs(1)", x -> x.needs(1), ANSWERED);
        due("needs(99)", x -> x.needs(99), ANSWERED);
        for (int what = 0; what <= 1; what++) {
            int asked = what;
            due("keepWhich(1, " + what + ")", x -> x.keepWhich(1, asked), ANSWERED);
            due("keepWhich(60, " + what + ")", x -> x.keepWhich(60, asked), ANSWERED);
            due("fires(0, 0, 1, " + what + ")", x -> x.fires(0, 0, 1, asked), ANSWERED);
            due("fires(0, 0, 99, " + what + ")", x -> x.fires(0, 0, 99, asked), ANSWERED);
        }
    }

    private void askedSeen() {
        for (int days : new int[] {0, 1, 255, 65535}) {
            due("fewest(" + days + ", 0)", x -> x.fewest(days, 0), ANSWERED);
            due("fewest(" + days + ", 1)", x -> x.fewest(days, 1), ANSWERED);
        }
        for (int i = -2; i <= 3; i++) {
            int asked = i;
            due("befell(0, " + i + ")", x -> x.befell(0, asked), ANSWERED);
        }
        due("sure(0)", x -> x.sure(0), ANSWERED);
        due("judge()", QuietOffice::judge, ANSWERED);
    }
}
