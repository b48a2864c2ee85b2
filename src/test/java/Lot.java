/** Numbers that look drawn by lot, but are the same in every run. */
final class Lot {
    private long state;

    Lot(long seed) {
        state = seed * 2 + 1;
    }

    int below(int end) {
        state = state * 6364136223846793005L + 1442695040888963407L;
        return (int) ((state >>> 33) % end);
    }

    int within(int least, int greatest) {
        return least + below(greatest - least + 1);
    }
}
