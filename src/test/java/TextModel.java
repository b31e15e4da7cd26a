import java.util.ArrayList;
import java.util.List;

/**
 * The grammar of section 1 a second time. The text is cut into words and numbers first; then each of these is held
 * against the one that is due there, and a fault at each of its reasons is noted; the least one counts.
 */
final class TextModel {
    private static final int[][] LIFE = {{0, 200}, {0, 200}, {0, 200}, {0, 200}, {0, 2}};
    private static final int[][] POLICY = {{0, 999}, {1, 15}, {1, 30}, {0, 999}, {0, 999}};

    int fault = 0;
    int place = QuietOffice.NONE;
    int funds = 0;
    final List<int[]> lives = new ArrayList<>();
    final List<int[]> policies = new ArrayList<>();

    private final List<String> parts = new ArrayList<>();
    private final List<Integer> places = new ArrayList<>();
    private int next = 0;

    TextModel(String text) {
        cut(text);
        boolean begun = false;
        while (fault == 0 && next < parts.size()) {
            String word = parts.get(next);
            if (!begun && !word.equals("o") || !word.matches("[olp]")) {
                note(1);
            } else if (word.equals("o") && begun || word.equals("l") && lives.size() == 4
                    || word.equals("p") && policies.size() == 6) {
                note(3);
            } else {
                begun = true;
                next++;
                clause(word);
            }
        }
    }

    /** The end is a part, too, at the text's length, for a clause that is not whole. */
    private void cut(String text) {
        for (int i = 0; i < text.length(); ) {
            int end = i;
            while (end < text.length() && text.charAt(end) >= '0' && text.charAt(end) <= '9') {
                end++;
            }
            end = Math.max(end, i + 1);
            if (text.charAt(i) != ' ') {
                parts.add(text.substring(i, end));
                places.add(i);
            }
            i = end;
        }
        places.add(text.length());
    }

    private void note(int number) {
        fault = number;
        place = places.get(next);
    }

    private void clause(String word) {
        int[][] bounds = word.equals("o") ? new int[][] {{0, 999}} : word.equals("l") ? LIFE : POLICY;
        int[] numbers = new int[bounds.length];
        for (int i = 0; i < bounds.length; i++) {
            String part = next < parts.size() ? parts.get(next) : "";
            if (!part.matches("[0-9]+")) {
                note(1);
                return;
            }
            if (part.length() > 3 || Integer.parseInt(part) < bounds[i][0] || Integer.parseInt(part) > bounds[i][1]
                    || word.equals("p") && i == 0 && Integer.parseInt(part) >= lives.size()) {
                note(2);
                return;
            }
            numbers[i] = Integer.parseInt(part);
            next++;
        }
        if (next >= parts.size() || !parts.get(next).equals(";")) {
            note(1);
            return;
        }
        next++;
        if (word.equals("o")) {
            funds = numbers[0];
        } else {
            (word.equals("l") ? lives : policies).add(numbers);
        }
    }
}
