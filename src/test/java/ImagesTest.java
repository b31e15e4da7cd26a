/** Promises 32 to 34: the seed and images. */
public final class ImagesTest {
    public static void main(String[] args) {
        seeds();
        images();
        nothingToUndo();
        wrongInputs();
        Check.end();
    }

    private static void seeds() {
        QuietOffice x = Check.officeOf("o1;l1 1 1 1 0;");
        Check.due("first", x.seed(2147483647), 0);
        Check.due("most", x.seed(0), 2147483647);
        Check.due("seed(-1)", x.seed(-1), QuietOffice.OUTSIDE);
        Check.due("unchanged", x.seed(0), 0);
        x.drift(1);
        long seed = 0;
        for (int i = 0; i < 4; i++) {
            seed = (seed * 1103515245L + 12345L) % 2147483648L;
        }
        Check.due("four draws a life and day", x.seed(3), (int) seed);
        x.day(9);
        Check.due("days told draw nothing", x.seed(3), 3);
    }

    private static void images() {
        QuietOffice x = Check.officeOf(Check.TWO_LIVES);
        x.event(0, 1);
        x.day(3);
        x.event(1, 6);
        x.habit(0, 2);
        x.lapse(3, true);
        x.seed(42);
        Check.due("keep(0)", x.keep(0), 1);
        int funds = x.told(4);
        int paid = x.told(5);
        int due = x.told(6);
        x.day(50);
        x.event(1, 1);
        x.habit(0, 1);
        x.lapse(3, false);
        x.lapse(0, true);
        x.seed(43);
        x.witness(9);
        x.write(9);
        Check.due("keep(1)", x.keep(1), 1);
        Check.due("goBack(0)", x.goBack(0), 1);
        Check.due("day", x.told(3), 3);
        Check.due("funds", x.told(4), funds);
        Check.due("paid", x.told(5), paid);
        Check.due("due", x.told(6), due);
        Check.due("ruin", x.told(7), QuietOffice.NONE);
        Check.due("lapsed", x.told(8), 8);
        Check.due("events", x.life(1, 5), 6);
        Check.due("habit", x.life(0, 4), 2);
        Check.due("quiet", x.policy(0, 5), 2);
        Check.due("witnesses are not in it", x.told(9), 1);
        Check.due("nor the book", x.told(11), 1);
        Check.due("seed", x.seed(1), 42);
        Check.due("goBack(1)", x.goBack(1), 1);
        Check.due("day of 1", x.told(3), 53);
        Check.due("lapsed of 1", x.told(8), 1);
        Check.due("ruin of 1", x.told(7) > 0 ? 1 : 0, 1);
        Check.due("seed of 1", x.seed(1), 43);
        Check.due("keep(0) again", x.keep(0), 1);
        x.day(1);
        Check.due("goBack(0) again", x.goBack(0), 1);
        Check.due("day again", x.told(3), 53);
        x.day(1);
        Check.due("an image serves twice", x.goBack(0), 1);
        Check.due("day twice", x.told(3), 53);
    }

    private static void nothingToUndo() {
        QuietOffice x = Check.officeOf(Check.TWO_LIVES);
        x.day(7);
        x.keep(0);
        Check.due("keep", x.told(12), 0);
        Check.due("undo behind keep", x.undo(1), QuietOffice.NOT);
        x.day(3);
        Check.due("days since", x.told(12), 3);
        x.goBack(0);
        Check.due("goBack", x.told(12), 0);
        Check.due("undo behind goBack", x.undo(1), QuietOffice.NOT);
        x.day(2);
        Check.due("undo since", x.undo(2), 7);
    }

    private static void wrongInputs() {
        QuietOffice x = Check.officeOf(Check.TWO_LIVES);
        x.day(2);
        for (int i : new int[] {Integer.MIN_VALUE, -1, 2, Integer.MAX_VALUE}) {
            Check.due("keep(" + i + ")", x.keep(i), QuietOffice.UNKNOWN);
            Check.due("goBack(" + i + ")", x.goBack(i), QuietOffice.UNKNOWN);
        }
        Check.due("goBack(0)", x.goBack(0), QuietOffice.NOT);
        Check.due("goBack(1)", x.goBack(1), QuietOffice.NOT);
        Check.due("days are still there", x.told(12), 2);
        x.keep(1);
        Check.due("the other is not kept", x.goBack(0), QuietOffice.NOT);
        Check.due("this is", x.goBack(1), 1);
    }
}
