/** Draws for the tests: the same ones in each run, without any random source. */
final class Draws {
    private long state;

    Draws(long seed) {
        state = seed * 2862933555777941757L + 3037000493L;
    }

    /** From 0 to below n. */
    int below(int n) {
        state = state * 6364136223846793005L + 1442695040888963407L;
        return (int) Math.floorMod(state >>> 33, (long) n);
    }

    int from(int low, int high) {
        return low + below(high - low + 1);
    }

    boolean oneIn(int n) {
        return below(n) == 0;
    }

    String of(String... all) {
        return all[below(all.length)];
    }

    int of(int... all) {
        return all[below(all.length)];
    }
}
