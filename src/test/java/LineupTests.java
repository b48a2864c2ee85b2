/** Who can sing, who does, who is missing, and where they sit: promises 34 to 42 at their edges. */
final class LineupTests {
    private static final int[] REASONS = {
        ChoirRegister.HAS_LEFT, ChoirRegister.AWAY, ChoirRegister.EXCUSED, ChoirRegister.BREAKING,
        ChoirRegister.TOO_LOW, ChoirRegister.TOO_HIGH};

    private LineupTests() {
    }

    static void run() {
        everySetOfReasons();
        borrowedSingersReasons();
        linesAtTheEndsOfARange();
        linesAtTheEndsOfALoweredRange();
        linesOfOneNote();
        linesThatWereNotSet();
        oneLineWithMoreAndMoreSingers();
        threeSingersWithMoreAndMorePlaces();
        theEmptySetOfLines();
        setsOfLines();
        neededLineHasPlaces();
        neededLineIsTheFirstOfSeveral();
        noLineForOneWhoIsNotNeeded();
        roomIsMadeAfterOthersAreTold();
        roomIsMadeBesideOthersWhoAreTooMany();
        thoseWhoSingNothingCountForNothing();
        roomIsMadeThroughAllLines();
        linesWithPlacesAreTakenInTurn();
        descantOnlyOfLineZero();
        descantsBeforeAgeBeforeNumber();
        ageIsToldByDays();
        descantsOfFeastsBetween();
        theLowestAndTheHighest();
        pewsOfEachLine();
        seatsOfTheSameHeight();
        heldPewsStay();
    }

    private static void addSingers(Register x, int count) {
        for (int i = 0; i < count; i++) {
            x.register(20, 150, 10, 30, 0);
        }
    }

    // ---- who can sing

    private static void everySetOfReasons() {
        for (int set = 0; set < 64; set++) {
            int why = whyNot(set);
            int want = 0;
            for (int reason = 0; reason < 6 && want == 0; reason++) {
                want = (set & 1 << reason) != 0 ? REASONS[reason] : 0;
            }
            Checks.same("34: reasons of set " + set, want, why);
        }
    }

    private static boolean holds(int set, int reason) {
        return (set & 1 << reason - 1) != 0;
    }

    private static int whyNot(int set) {
        Register x = new Register();
        x.register(11, 150, 20, 30, holds(set, ChoirRegister.BREAKING) ? 12 : 0);
        x.announce(400, 1);
        int lowest = holds(set, ChoirRegister.TOO_LOW) ? 19 : 20;
        x.setLine(0, 2, 1, lowest, holds(set, ChoirRegister.TOO_HIGH) ? 31 : 30);
        Calls.pass(x, 350);
        if (holds(set, ChoirRegister.AWAY)) {
            x.lend(0, 0, 50);
        }
        if (holds(set, ChoirRegister.EXCUSED)) {
            x.excuse(0, 400, 400);
        }
        if (holds(set, ChoirRegister.HAS_LEFT)) {
            x.leave(0);
        }
        return x.whyNot(0, 0, 2);
    }

    private static void borrowedSingersReasons() {
        Register x = new Register();
        x.borrow(0, 1, 150, 20, 30, 5);
        x.excuse(0, 5, 6);
        x.announce(5, 1);
        x.announce(6, 1);
        for (int feast = 0; feast < 2; feast++) {
            x.setLine(feast, 0, 0, 19, 30);
            x.setLine(feast, 1, 0, 20, 31);
            for (int line = 0; line < 4; line++) {
                int want = feast == 0 ? ChoirRegister.EXCUSED : ChoirRegister.HAS_LEFT;
                Checks.same("34: borrowed, feast " + feast, want, x.whyNot(feast, 0, line));
            }
        }
    }

    private static void checkSpans(String what, Register x, int[][] spans) {
        for (int[] span : spans) {
            x.setLine(0, 0, 1, span[0], span[1]);
            Checks.same("34: " + what + " from " + span[0] + " to " + span[1], span[2], x.whyNot(0, 0, 0));
            Checks.same("35: " + what + " from " + span[0] + " to " + span[1], span[2] == 0 ? 0 : -1, x.lineOf(0, 0));
        }
    }

    private static void linesAtTheEndsOfARange() {
        Register x = new Register();
        x.register(20, 150, 20, 30, 0);
        x.announce(1, 1);
        int low = ChoirRegister.TOO_LOW;
        int high = ChoirRegister.TOO_HIGH;
        checkSpans("20 to 30", x, new int[][] {
            {20, 30, 0}, {20, 20, 0}, {30, 30, 0}, {25, 25, 0}, {19, 30, low}, {20, 31, high}, {19, 31, low},
            {19, 19, low}, {31, 31, high}, {0, 48, low}, {0, 0, low}, {48, 48, high}, {30, 31, high}, {19, 20, low}});
    }

    private static void linesAtTheEndsOfALoweredRange() {
        Register x = new Register();
        x.register(11, 150, 11, 12, 12);
        x.announce(450, 1);
        int high = ChoirRegister.TOO_HIGH;
        checkSpans("0 to 0", x, new int[][] {{0, 0, 0}, {0, 1, high}, {1, 1, high}});
        Register y = new Register();
        y.register(11, 150, 13, 48, 12);
        y.announce(450, 1);
        checkSpans("1 to 36", y, new int[][] {
            {1, 36, 0}, {0, 36, ChoirRegister.TOO_LOW}, {1, 37, high}, {36, 36, 0}, {37, 48, high}});
    }

    private static void linesOfOneNote() {
        Register x = new Register();
        x.register(20, 150, 0, 0, 0);
        x.announce(1, 1);
        checkSpans("0 to 0", x, new int[][] {{0, 0, 0}, {0, 1, ChoirRegister.TOO_HIGH}, {1, 1, ChoirRegister.TOO_HIGH}});
        Register y = new Register();
        y.register(20, 150, 48, 48, 0);
        y.announce(1, 1);
        checkSpans("48 to 48", y, new int[][] {
            {48, 48, 0}, {47, 48, ChoirRegister.TOO_LOW}, {47, 47, ChoirRegister.TOO_LOW}});
    }

    private static void linesThatWereNotSet() {
        Register x = new Register();
        x.register(20, 150, 0, 0, 0);
        x.register(20, 150, 1, 48, 0);
        x.announce(1, 1);
        for (int line = 0; line < 4; line++) {
            Checks.same("34: both notes are 0 at first", 0, x.whyNot(0, 0, line));
            Checks.same("34: both notes are 0 at first", ChoirRegister.TOO_LOW, x.whyNot(0, 1, line));
        }
        Checks.same("35: but there are no places", -1, x.lineOf(0, 0));
        x.setLine(0, 2, 0, 0, 0);
        Checks.same("34: whether there are places or not", 0, x.whyNot(0, 0, 2));
        Checks.same("35: no places", -1, x.lineOf(0, 0));
    }

    // ---- who sings

    private static void oneLineWithMoreAndMoreSingers() {
        for (int singers = 0; singers <= 8; singers++) {
            Register x = new Register();
            addSingers(x, singers);
            x.announce(1, 1);
            x.setLine(0, 1, 6, 10, 30);
            checkOneLine(x, singers);
            x.passDays(1);
            checkOneLine(x, singers);
            Checks.same("47: of " + singers, Math.min(singers, 6), x.collected());
            Checks.same("49: of " + singers, Math.max(0, 6 - singers), x.fines());
        }
    }

    private static void checkOneLine(Register x, int singers) {
        String what = " of " + singers + (x.isHeld(0) ? ", held" : "");
        Checks.same("36: singers" + what, Math.min(singers, 6), x.singersIn(0, 1));
        Checks.same("36: singers of another line" + what, 0, x.singersIn(0, 0));
        Checks.same("37: shortfall" + what, Math.max(0, 6 - singers), x.shortfall(0));
        for (int singer = 0; singer < singers; singer++) {
            boolean sings = singer < 6;
            Checks.same("35: singer " + singer + what, sings ? 1 : -1, x.lineOf(0, singer));
            Checks.same("41: singer " + singer + what, sings ? singer / 2 : -1, x.pewOf(0, singer));
            Checks.same("42: singer " + singer + what, sings ? singer % 2 : -1, x.seatOf(0, singer));
        }
        if (!x.isHeld(0)) {
            Checks.same("38: shortfall" + what, Math.max(0, 6 - singers), x.shortfallBySets(0));
            Checks.same("39: needed" + what, singers < 6 ? 1 : -1, x.neededLine(0));
            Checks.same("43: short" + what, singers < 6 ? 0 : -1, x.firstShortFeast());
        }
    }

    private static void threeSingersWithMoreAndMorePlaces() {
        Register x = new Register();
        addSingers(x, 3);
        x.announce(1, 1);
        for (int places = 0; places <= 6; places++) {
            Checks.same("8: places", places, x.setLine(0, 0, places, 10, 30));
            Checks.same("36: of " + places, Math.min(3, places), x.singersIn(0, 0));
            Checks.same("37: of " + places, Math.max(0, places - 3), x.shortfall(0));
            Checks.same("38: of " + places, Math.max(0, places - 3), x.shortfallBySets(0));
            Checks.same("39: of " + places, places > 3 ? 0 : -1, x.neededLine(0));
            Checks.same("40: of " + places, places > 0 ? 0 : -1, x.descantIn(0));
        }
    }

    private static void theEmptySetOfLines() {
        Register x = new Register();
        addSingers(x, 4);
        x.announce(1, 1);
        for (int line = 0; line < 4; line++) {
            x.setLine(0, line, 0, 10, 30);
        }
        Checks.same("38: more singers than places", 0, x.shortfallBySets(0));
        x.setLine(0, 3, 3, 10, 30);
        Checks.same("38: more singers than the places of line 3", 0, x.shortfallBySets(0));
        Checks.same("37: more singers than the places of line 3", 0, x.shortfall(0));
        Checks.same("39: more singers than the places of line 3", -1, x.neededLine(0));
    }

    private static void setsOfLines() {
        int[] note = {0, 12, 24, 36};
        for (int set = 1; set < 16; set++) {
            Register x = new Register();
            x.announce(1, 1);
            int lines = 0;
            for (int line = 0; line < 4; line++) {
                boolean isShort = (set & 1 << line) != 0;
                x.setLine(0, line, isShort ? 3 : 1, note[line], note[line]);
                x.register(20, 150, note[line], note[line], 0);
                x.register(20, 150, note[line], note[line], 0);
                lines += isShort ? 1 : 0;
            }
            Checks.same("38: just the lines of set " + set, lines, x.shortfallBySets(0));
            Checks.same("37: just the lines of set " + set, lines, x.shortfall(0));
            Checks.same("39: the first line of set " + set, Integer.numberOfTrailingZeros(set), x.neededLine(0));
        }
    }

    private static void neededLineHasPlaces() {
        Register x = new Register();
        x.announce(1, 1);
        x.setLine(0, 0, 0, 10, 30);
        x.setLine(0, 1, 0, 10, 30);
        x.setLine(0, 2, 1, 10, 30);
        x.setLine(0, 3, 1, 10, 30);
        Checks.same("39: lines 0 and 1 have no places", 2, x.neededLine(0));
        x.setLine(0, 0, 1, 10, 30);
        Checks.same("39: line 0 has one", 0, x.neededLine(0));
        addSingers(x, 2);
        Checks.same("39: one is still missing", 0, x.neededLine(0));
        addSingers(x, 1);
        Checks.same("39: nobody is missing", -1, x.neededLine(0));
    }

    private static void neededLineIsTheFirstOfSeveral() {
        Register x = new Register();
        x.register(20, 150, 10, 20, 0);
        x.register(20, 150, 30, 40, 0);
        x.announce(1, 1);
        x.setLine(0, 0, 1, 10, 20);
        x.setLine(0, 1, 2, 30, 40);
        Checks.same("39: line 0 is filled", 1, x.neededLine(0));
        x.setLine(0, 2, 1, 35, 35);
        Checks.same("39: line 1 before line 2", 1, x.neededLine(0));
        x.setLine(0, 1, 1, 30, 40);
        x.setLine(0, 3, 1, 48, 48);
        Checks.same("39: lines 1, 2 and 3, but two are short", 1, x.neededLine(0));
        Checks.same("37: two are short", 2, x.shortfall(0));
        x.setLine(0, 2, 0, 35, 35);
        Checks.same("39: line 3 alone", 3, x.neededLine(0));
    }

    private static void noLineForOneWhoIsNotNeeded() {
        Register x = new Register();
        x.register(20, 150, 10, 30, 0);
        x.register(20, 150, 10, 20, 0);
        x.announce(1, 1);
        x.setLine(0, 0, 1, 10, 20);
        Checks.same("35: the first by number", 0, x.lineOf(0, 0));
        Checks.same("35: none is left", -1, x.lineOf(0, 1));
        x.setLine(0, 1, 1, 25, 30);
        Checks.same("35: makes room for the other", 1, x.lineOf(0, 0));
        Checks.same("35: who can sing line 0 alone", 0, x.lineOf(0, 1));
        x.excuse(1, 1, 1);
        Checks.same("35: no need to make room", 0, x.lineOf(0, 0));
        Checks.same("37: line 1 is open", 1, x.shortfall(0));
    }

    /** Lines 0 to 2 have one place each, on notes of their own. */
    private static Register threeLines(int[]... ranges) {
        Register x = new Register();
        x.announce(1, 1);
        for (int line = 0; line < 3; line++) {
            x.setLine(0, line, 1, 10 + 10 * line, 10 + 10 * line);
        }
        for (int[] range : ranges) {
            x.register(20, 150, range[0], range[1], 0);
        }
        return x;
    }

    private static void roomIsMadeAfterOthersAreTold() {
        Register x = threeLines(new int[] {30, 30}, new int[] {10, 20}, new int[] {10, 10});
        Checks.same("35: the one of line 2 comes first", 2, x.lineOf(0, 0));
        Checks.same("35: then one makes room", 1, x.lineOf(0, 1));
        Checks.same("35: for the last one", 0, x.lineOf(0, 2));
        Checks.same("37: all are filled", 0, x.shortfall(0));
    }

    private static void roomIsMadeBesideOthersWhoAreTooMany() {
        Register x = threeLines(new int[] {30, 30}, new int[] {10, 20}, new int[] {10, 10}, new int[] {30, 30});
        int[] want = {2, 1, 0, -1};
        for (int singer = 0; singer < want.length; singer++) {
            Checks.same("35: one too many for line 2, singer " + singer, want[singer], x.lineOf(0, singer));
        }
        Checks.same("37: all are filled", 0, x.shortfall(0));
    }

    /** Singers who can sing none of the lines stand before, between and after the two who must share them. */
    private static void thoseWhoSingNothingCountForNothing() {
        int[] none = {40, 48};
        Register x = threeLines(none, new int[] {10, 20}, none, none, new int[] {10, 10}, none);
        int[] want = {-1, 1, -1, -1, 0, -1};
        for (int singer = 0; singer < want.length; singer++) {
            Checks.same("35: two of six, singer " + singer, want[singer], x.lineOf(0, singer));
        }
        Checks.same("37: line 2 is open", 1, x.shortfall(0));
        x.excuse(1, 1, 1);
        Checks.same("35: the other one stays in line 0", 0, x.lineOf(0, 4));
        Checks.same("37: lines 1 and 2 are open", 2, x.shortfall(0));
    }

    /** Lines 0 to 3 lie one above the other; each singer can sing two of them, the last one the lowest alone. */
    private static void roomIsMadeThroughAllLines() {
        Register x = new Register();
        x.announce(1, 1);
        for (int line = 0; line < 4; line++) {
            x.setLine(0, line, 1, 10 + 10 * line, 10 + 10 * line);
        }
        for (int singer = 0; singer < 3; singer++) {
            x.register(20, 150, 10 + 10 * singer, 20 + 10 * singer, 0);
        }
        for (int singer = 0; singer < 3; singer++) {
            Checks.same("35: no need to make room, singer " + singer, singer, x.lineOf(0, singer));
        }
        x.register(20, 150, 10, 10, 0);
        for (int singer = 0; singer < 3; singer++) {
            Checks.same("35: each makes room, singer " + singer, singer + 1, x.lineOf(0, singer));
        }
        Checks.same("35: for the last one", 0, x.lineOf(0, 3));
        x.setLine(0, 2, 0, 30, 30);
        int[] want = {0, 1, 3, -1};
        for (int singer = 0; singer < want.length; singer++) {
            Checks.same("35: line 2 has no places, singer " + singer, want[singer], x.lineOf(0, singer));
        }
    }

    private static void linesWithPlacesAreTakenInTurn() {
        Register x = new Register();
        addSingers(x, 6);
        x.announce(1, 1);
        int[] places = {1, 0, 2, 1};
        for (int line = 0; line < 4; line++) {
            x.setLine(0, line, places[line], 10, 30);
        }
        int[] want = {0, 2, 2, 3, -1, -1};
        for (int singer = 0; singer < want.length; singer++) {
            Checks.same("35: singer " + singer, want[singer], x.lineOf(0, singer));
        }
        for (int line = 0; line < 4; line++) {
            Checks.same("36: line " + line, places[line], x.singersIn(0, line));
        }
    }

    // ---- the descant

    private static void descantOnlyOfLineZero() {
        Register x = new Register();
        addSingers(x, 2);
        x.announce(1, 1);
        x.setLine(0, 1, 2, 10, 30);
        Checks.same("40: nobody in line 0", -1, x.descantIn(0));
        x.setLine(0, 0, 1, 10, 30);
        x.register(70, 150, 10, 30, 0);
        Checks.same("40: the only one in line 0", 0, x.descantIn(0));
        x.passDays(1);
        Checks.same("40: held", 0, x.descantIn(0));
        Checks.same("29: the only one in line 0", 1, x.descantsOf(0));
        Checks.same("29: one in line 1", 0, x.descantsOf(1));
        Checks.same("29: the oldest one, in line 1", 0, x.descantsOf(2));
    }

    private static void descantsBeforeAgeBeforeNumber() {
        Register x = new Register();
        x.register(30, 150, 10, 30, 0);
        x.register(40, 150, 10, 30, 0);
        x.register(40, 150, 10, 30, 0);
        for (int feast = 0; feast < 7; feast++) {
            x.announce(feast + 1, 1);
            x.setLine(feast, 0, 3, 10, 30);
        }
        int[] want = {1, 2, 0, 1, 2, 0, 1};
        for (int feast = 0; feast < want.length; feast++) {
            Checks.same("40: to come, feast " + feast, want[feast], x.descantIn(feast));
        }
        x.passDays(7);
        for (int feast = 0; feast < want.length; feast++) {
            Checks.same("40: held, feast " + feast, want[feast], x.descantIn(feast));
        }
        Checks.same("29: of the younger one", 2, x.descantsOf(0));
        Checks.same("29: of the first of the older ones", 3, x.descantsOf(1));
    }

    private static void ageIsToldByDays() {
        Register x = new Register();
        x.register(20, 150, 10, 30, 0);
        Calls.pass(x, 359);
        x.register(21, 150, 10, 30, 0);
        x.borrow(0, 0, 150, 0, 5, 90);
        x.announce(360, 1);
        x.setLine(0, 0, 2, 10, 30);
        Checks.same("40: older by all but a day of a year", 1, x.descantIn(0));
        Register y = new Register();
        y.register(20, 150, 10, 30, 0);
        Calls.pass(y, 360);
        y.register(21, 150, 10, 30, 0);
        y.passDays(1);
        y.register(21, 150, 10, 30, 0);
        y.announce(362, 1);
        y.setLine(0, 0, 3, 10, 30);
        Checks.same("40: as old by days", 0, y.descantIn(0));
        y.leave(0);
        Checks.same("40: older by a day", 1, y.descantIn(0));
    }

    private static void descantsOfFeastsBetween() {
        Register x = new Register();
        addSingers(x, 2);
        x.announce(9, 1);
        x.setLine(0, 0, 2, 10, 30);
        Checks.same("40: no feast between", 0, x.descantIn(0));
        x.announce(8, 1);
        Checks.same("40: one without places between", 0, x.descantIn(0));
        x.setLine(1, 0, 1, 10, 30);
        Checks.same("40: one between", 1, x.descantIn(0));
        x.announce(10, 1);
        x.setLine(2, 0, 2, 10, 30);
        Checks.same("40: a later one does not count", 1, x.descantIn(0));
        Checks.same("40: two between", 0, x.descantIn(2));
        Checks.same("29: nothing is sung by asking", 0, x.descantsOf(0));
        x.passDays(8);
        Checks.same("29: one was sung", 1, x.descantsOf(0));
        Checks.same("40: one was held", 1, x.descantIn(0));
    }

    // ---- pews

    private static void checkSeats(String what, Register x, int... want) {
        for (int singer = 0; singer < want.length; singer++) {
            int place = want[singer];
            Checks.same("41: " + what + ", pew of " + singer, place < 0 ? -1 : place / 2, x.pewOf(0, singer));
            Checks.same("42: " + what + ", seat of " + singer, place < 0 ? -1 : place % 2, x.seatOf(0, singer));
        }
    }

    private static Register choirOfHeights(int... heights) {
        Register x = new Register();
        for (int height : heights) {
            x.register(20, height, 10, 30, 0);
        }
        x.announce(1, 1);
        x.setLine(0, 0, 6, 10, 30);
        return x;
    }

    private static void theLowestAndTheHighest() {
        checkSeats("90 to 210", choirOfHeights(210, 209, 91, 90), 3, 2, 1, 0);
        checkSeats("six", choirOfHeights(160, 110, 150, 120, 140, 130), 5, 0, 4, 1, 3, 2);
        checkSeats("a borrowed one between", borrowedBetween(), 0, 2, 1);
    }

    private static Register borrowedBetween() {
        Register x = choirOfHeights(140, 160);
        x.borrow(0, 1, 150, 10, 30, 5);
        return x;
    }

    private static void pewsOfEachLine() {
        Register x = choirOfHeights(180, 170, 160, 150, 140);
        x.setLine(0, 0, 2, 10, 30);
        x.setLine(0, 2, 2, 10, 30);
        checkSeats("two lines", x, 1, 0, 1, 0, -1);
    }

    private static void seatsOfTheSameHeight() {
        checkSeats("two", choirOfHeights(150, 150), 0, 1);
        checkSeats("three over two pews", choirOfHeights(150, 150, 150), 0, 1, 2);
        checkSeats("a lower one behind", choirOfHeights(150, 150, 149), 1, 2, 0);
        checkSeats("a higher one before", choirOfHeights(151, 150, 150), 2, 0, 1);
    }

    private static void heldPewsStay() {
        Register x = choirOfHeights(180, 170, 160);
        x.passDays(1);
        x.leave(2);
        x.register(20, 90, 10, 30, 0);
        checkSeats("held", x, 2, 1, 0, -1);
        x.undo();
        x.undo();
        x.undo();
        checkSeats("not held any more", x, 2, 1, 0);
        x.leave(2);
        checkSeats("to come", x, 1, 0, -1);
    }
}
