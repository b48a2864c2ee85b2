/** Several calls at once, for the tests that need only what comes of them. */
final class Calls {
    private static final int MOST_DAYS = 99;

    private Calls() {
    }

    static void pass(Register x, int days) {
        int left = days;
        while (left > 0) {
            int now = Math.min(left, MOST_DAYS);
            x.passDays(now);
            left -= now;
        }
    }

    static void write(Register x, String letter) {
        x.clearLetter();
        for (int i = 0; i < letter.length(); i++) {
            x.type(letter.charAt(i));
        }
    }
}
