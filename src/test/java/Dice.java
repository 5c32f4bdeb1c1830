/** Numbers that look thrown, the same ones in every run. */
final class Dice {
    private long state;

    Dice(long seed) {
        state = seed * 2862933555777941757L + 3037000493L;
    }

    int below(int n) {
        state = state * 6364136223846793005L + 1442695040888963407L;
        return (int) ((state >>> 33) % n);
    }

    int from(int least, int greatest) {
        return least + below(greatest - least + 1);
    }

    boolean one(int ofSo) {
        return below(ofSo) == 0;
    }

    int pick(int... of) {
        return of[below(of.length)];
    }
}
