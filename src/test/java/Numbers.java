/** Numbers that look like chance but are the same in every run. */
final class Numbers {
    private long state;

    Numbers(long seed) {
        state = seed * 0x9E3779B97F4A7C15L + 1;
    }

    private long next() {
        state = state * 6364136223846793005L + 1442695040888963407L;
        long mixed = (state ^ state >>> 29) * 0xBF58476D1CE4E5B9L;
        return mixed ^ mixed >>> 32;
    }

    int below(int bound) {
        return (int) Long.remainderUnsigned(next(), bound);
    }

    long within(long bound) {
        return Long.remainderUnsigned(next(), 2 * bound + 1) - bound;
    }

    int any() {
        return (int) next();
    }
}
