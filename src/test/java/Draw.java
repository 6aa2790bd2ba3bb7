/** Numbers that look drawn but are the same at every run. */
final class Draw {
    private long state;

    Draw(long seed) {
        state = seed * 0x9E3779B97F4A7C15L + 0x1234567L;
    }

    /** A number from 0 to bound - 1. */
    int below(int bound) {
        state = state * 6364136223846793005L + 1442695040888963407L;
        return (int) ((state >>> 33) % bound);
    }

    int from(int least, int most) {
        return least + below(most - least + 1);
    }

    boolean oneIn(int n) {
        return below(n) == 0;
    }

    int word() {
        return below(1 << 16) << 16 | below(1 << 16);
    }
}
