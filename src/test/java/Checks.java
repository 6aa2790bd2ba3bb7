import java.util.NoSuchElementException;

/** Counts and prints the calls whose answer is not the one that is due. */
final class Checks {
    interface Call {
        long answer();
    }

    /** What a call that throws answers: a number that no call of the face gives. */
    static final long NO_SUCH = 10_000_000_001L;
    static final long ARGUMENT = 10_000_000_002L;
    static final long STATE = 10_000_000_003L;
    static final long OTHER = 10_000_000_004L;

    private int wrong = 0;
    private int made = 0;

    static long bit(boolean answer) {
        return answer ? 1 : 0;
    }

    static long outcome(Call call) {
        try {
            return call.answer();
        } catch (RuntimeException thrown) {
            Class<?> kind = thrown.getClass();
            return kind == NoSuchElementException.class ? NO_SUCH
                    : kind == IllegalArgumentException.class ? ARGUMENT
                    : kind == IllegalStateException.class ? STATE : OTHER;
        }
    }

    static String told(long outcome) {
        return outcome == NO_SUCH ? "NoSuchElementException"
                : outcome == ARGUMENT ? "IllegalArgumentException"
                : outcome == STATE ? "IllegalStateException"
                : outcome == OTHER ? "another exception" : Long.toString(outcome);
    }

    void due(String what, long want, Call call) {
        same(what, want, outcome(call));
    }

    void same(String what, long want, long got) {
        made++;
        if (got != want) {
            wrong++;
            if (wrong <= 50) {
                System.out.println(what + ": answered " + told(got) + ", due is " + told(want));
            }
        }
    }

    int wrongSoFar() {
        return wrong;
    }

    /** Ends the test: with exit code 1 if an answer was wrong, or if nothing was checked. */
    void end(String test) {
        System.out.println(test + ": " + made + " answers checked, " + wrong + " wrong");
        if (wrong != 0 || made == 0) {
            System.exit(1);
        }
    }

    /** Feeds a text, filled up with '!' to a whole number of feeds; answers its length. */
    static int feed(TransactionalFlash flash, String text) {
        for (int at = 0; at < text.length(); at += 20) {
            flash.feed(word(text, at), word(text, at + 4), word(text, at + 8), word(text, at + 12),
                    word(text, at + 16));
        }
        return text.length();
    }

    static int word(String text, int at) {
        int word = 0;
        for (int i = at; i < at + 4; i++) {
            word = word << 8 | (i < text.length() ? text.charAt(i) & 255 : '!');
        }
        return word;
    }

    static TransactionalFlash formatted(String text) {
        TransactionalFlash flash = new TransactionalFlash();
        flash.format(feed(flash, text));
        return flash;
    }
}
