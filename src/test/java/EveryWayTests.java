/**
 * Promises 35 to 39 and 43 of small feasts drawn by lot, whose lineups are found by trying every way to give the lines:
 * with nothing but the document's sentence on the lineup, and without the sets of lines.
 */
final class EveryWayTests {
    private static final int FEASTS = 700;
    private static final int LINES = 4;
    private static final int MOST_SINGERS = 6;

    private final Lot lot;
    private final String name;
    private final int singers;
    private final boolean[][] able;
    private final int[] places = new int[LINES];
    private final Register x = new Register();

    private EveryWayTests(int number) {
        lot = new Lot(number * 104729L + 5);
        name = "feast " + number + ", ";
        singers = lot.within(1, MOST_SINGERS);
        able = new boolean[singers][LINES];
    }

    static void run() {
        for (int number = 0; number < FEASTS; number++) {
            EveryWayTests feast = new EveryWayTests(number);
            feast.make();
            feast.check();
        }
    }

    // ---- the feast: its lines lie beside one another in some order, and a singer can sing a row of them

    private void make() {
        x.announce(1, 1);
        int[] noteOf = someOrder();
        for (int line = 0; line < LINES; line++) {
            places[line] = lot.below(3);
            x.setLine(0, line, places[line], noteOf[line], noteOf[line]);
        }
        for (int singer = 0; singer < singers; singer++) {
            int lowest = lot.within(1, 5) * 8;
            int highest = Math.min(40, lowest + 8 * lot.below(4));
            x.register(20, 150, lowest, highest, 0);
            boolean isExcused = lot.below(8) == 0;
            if (isExcused) {
                x.excuse(singer, 1, 1);
            }
            for (int line = 0; line < LINES; line++) {
                able[singer][line] = !isExcused && noteOf[line] >= lowest && noteOf[line] <= highest;
            }
        }
    }

    private int[] someOrder() {
        int[] noteOf = {8, 16, 24, 32};
        for (int line = LINES - 1; line > 0; line--) {
            int other = lot.below(line + 1);
            int note = noteOf[line];
            noteOf[line] = noteOf[other];
            noteOf[other] = note;
        }
        return noteOf;
    }

    // ---- every way

    /** The most places that the singers from one number on can fill. */
    private int most(int singer, int[] open) {
        if (singer == singers) {
            return 0;
        }
        int most = most(singer + 1, open);
        for (int line = 0; line < LINES; line++) {
            if (able[singer][line] && open[line] > 0) {
                open[line]--;
                most = Math.max(most, 1 + most(singer + 1, open));
                open[line]++;
            }
        }
        return most;
    }

    private int[] lineup() {
        int[] open = places.clone();
        int[] lineup = new int[singers];
        int due = most(0, open);
        for (int singer = 0; singer < singers; singer++) {
            lineup[singer] = -1;
            for (int line = 0; line < LINES && lineup[singer] < 0; line++) {
                if (able[singer][line] && open[line] > 0) {
                    open[line]--;
                    if (1 + most(singer + 1, open) == due) {
                        lineup[singer] = line;
                        due--;
                    } else {
                        open[line]++;
                    }
                }
            }
        }
        return lineup;
    }

    private int shortfall(int[] ofPlaces) {
        int all = 0;
        for (int some : ofPlaces) {
            all += some;
        }
        return all - most(0, ofPlaces.clone());
    }

    private int neededLine() {
        for (int line = 0; line < LINES; line++) {
            int[] fewer = places.clone();
            fewer[line]--;
            if (places[line] > 0 && shortfall(fewer) < shortfall(places)) {
                return line;
            }
        }
        return -1;
    }

    // ---- what the register answers

    private void check() {
        int[] lineup = lineup();
        int shortfall = shortfall(places);
        checkLineup("to come", lineup, shortfall);
        Checks.same("38: " + name + "sets", shortfall, x.shortfallBySets(0));
        Checks.same("39: " + name + "needed", neededLine(), x.neededLine(0));
        Checks.same("43: " + name + "short", shortfall > 0 ? 0 : -1, x.firstShortFeast());
        x.passDays(1);
        checkLineup("held", lineup, shortfall);
    }

    private void checkLineup(String when, int[] lineup, int shortfall) {
        int[] inLine = new int[LINES];
        for (int singer = 0; singer < singers; singer++) {
            Checks.same("35: " + name + when + ", singer " + singer, lineup[singer], x.lineOf(0, singer));
            if (lineup[singer] >= 0) {
                inLine[lineup[singer]]++;
            }
        }
        for (int line = 0; line < LINES; line++) {
            Checks.same("36: " + name + when + ", line " + line, inLine[line], x.singersIn(0, line));
        }
        Checks.same("37: " + name + when, shortfall, x.shortfall(0));
    }
}
