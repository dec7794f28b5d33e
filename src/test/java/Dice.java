/** Numbers that look random, the same ones in each run. */
final class Dice {
    private long state;

    Dice(long seed) {
        state = seed * 2862933555777941757L + 3037000493L;
    }

    /** From 0 to below the bound. */
    int below(int bound) {
        state = state * 6364136223846793005L + 1442695040888963407L;
        return (int) Math.floorMod(state >>> 33, (long) bound);
    }

    boolean oneIn(int n) {
        return below(n) == 0;
    }

    String oneOf(String... texts) {
        return texts[below(texts.length)];
    }
}
