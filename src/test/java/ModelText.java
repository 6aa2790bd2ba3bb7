import java.util.ArrayList;
import java.util.List;
import java.util.regex.Matcher;
import java.util.regex.Pattern;

/** A format as section 5 reads it: all errors are gathered first, then the one to report is picked. */
final class ModelText {
    private static final Pattern PIECE = Pattern.compile("[a-z]+|[0-9]+|;|[ \n]+|[^a-z0-9; \n]", Pattern.DOTALL);
    private static final String[] HEAD = {"blocks", "#", "pages", "#", "logical", "#", "every", "#", ";"};
    private static final int[] LEAST = {4, 2, 1, 1};
    private static final int[] MOST = {32, 32, 64, 50};

    final int[] head = new int[4];
    final List<Integer> values = new ArrayList<>();
    int code = 0;
    int position = -1;

    private int tokens = 0;
    private boolean inFill = false;
    private int valuesInFill = 0;

    ModelText(String text) {
        Matcher pieces = PIECE.matcher(text);
        boolean lastWasRun = false;
        while (code == 0 && pieces.find()) {
            String piece = pieces.group();
            char first = piece.charAt(0);
            boolean isRun = Character.isLetterOrDigit(first) && first < 128 && !Character.isUpperCase(first);
            if (first != ' ' && first != '\n') {
                int found = isRun && lastWasRun ? 1 : take(piece, first);
                if (found != 0) {
                    code = found;
                    position = pieces.start();
                }
            }
            lastWasRun = isRun;
        }
        if (code == 0 && (tokens < HEAD.length || inFill)) {
            code = 1;
            position = text.length();
        }
    }

    private int take(String piece, char first) {
        boolean isNumber = first >= '0' && first <= '9';
        if (isNumber && piece.length() > 6) {
            return 1;
        }
        if (tokens >= HEAD.length) {
            return takeFill(piece, isNumber);
        }
        String due = HEAD[tokens];
        if (due.equals("#") ? !isNumber : !due.equals(piece)) {
            return 1;
        }
        tokens++;
        return due.equals("#") ? takeHead((tokens - 2) / 2, Integer.parseInt(piece)) : 0;
    }

    private int takeHead(int which, int number) {
        head[which] = number;
        if (number < LEAST[which] || number > MOST[which]) {
            return 2;
        }
        int parts = (int) Math.ceil(head[2] / 8.0);
        return which == 2 && (head[0] - 2) * head[1] < head[2] + 2 * (parts + 1) + 1 ? 2 : 0;
    }

    private int takeFill(String piece, boolean isNumber) {
        if (!inFill) {
            inFill = piece.equals("fill");
            valuesInFill = 0;
            return inFill ? 0 : 1;
        }
        if (isNumber) {
            valuesInFill++;
            values.add(Integer.parseInt(piece));
            return values.size() > head[2] ? 3 : 0;
        }
        inFill = false;
        return piece.equals(";") && valuesInFill > 0 ? 0 : 1;
    }
}
