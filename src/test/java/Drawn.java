import java.util.function.Predicate;

/** What one time BY DRAWS draws from a seed: worked out by the document's words, for tests that need a certain draw. */
record Drawn(int head, int side, int axles, int fourth, int last, int seedBehind) {
    static Drawn from(int seed, int heads) {
        long[] at = {seed};
        return new Drawn(draw(at, heads), draw(at, 2), draw(at, 3) + 1, draw(at, 16), draw(at, 1 << heads), (int) at[0]);
    }

    private static int draw(long[] at, int n) {
        at[0] = (at[0] * 1103515245L + 12345L) % (1L << 31);
        return (int) (at[0] / 65536 % n);
    }

    /** The first seed whose draws are so. */
    static int seedOf(int heads, Predicate<Drawn> so) {
        for (int seed = 0; seed < 5000000; seed++) if (so.test(from(seed, heads))) return seed;
        throw new IllegalStateException("no such draw");
    }
}
