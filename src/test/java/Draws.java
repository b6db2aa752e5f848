/** The same row of numbers at each run of a test. */
final class Draws {
    private long state;

    Draws(long seed) {
        state = seed * 2862933555777941757L + 3037000493L;
    }

    /** A number from 0 to below the bound. */
    int below(int bound) {
        state = state * 6364136223846793005L + 1442695040888963407L;
        return (int) ((state >>> 33) % bound);
    }

    boolean oneIn(int many) {
        return below(many) == 0;
    }

    /** Mostly a number from least to most, now and then one just outside, or far out. */
    int around(int least, int most) {
        if (!oneIn(12)) return least + below(most - least + 1);
        switch (below(5)) {
            case 0: return least - 1;
            case 1: return most + 1;
            case 2: return Integer.MIN_VALUE;
            case 3: return Integer.MAX_VALUE;
            default: return -(1 + below(100000));
        }
    }
}
