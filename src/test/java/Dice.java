/** Numbers that look thrown, but are the same in every run of the tests. */
final class Dice {
    private long state;

    Dice(long seed) {
        state = seed * 2862933555777941757L + 3037000493L;
    }

    int below(int bound) {
        state = state * 6364136223846793005L + 1442695040888963407L;
        return (int) ((state >>> 33) % bound);
    }

    int from(int least, int greatest) {
        return least + below(greatest - least + 1);
    }

    boolean oneIn(int many) {
        return below(many) == 0;
    }
}
