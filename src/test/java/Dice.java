/** Numbers that look thrown, the same in every run of the tests. */
final class Dice {
    private long state;

    Dice(long seed) {
        state = seed * 0x9E3779B97F4A7C15L + 0x632BE59BD9B4E019L;
    }

    int bits() {
        state = state * 6364136223846793005L + 1442695040888963407L;
        return (int) (state >>> 32);
    }

    int below(int n) {
        return Math.floorMod(bits() >>> 3, n);
    }

    boolean oneIn(int n) {
        return below(n) == 0;
    }
}
