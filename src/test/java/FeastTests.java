/** Promises 7 to 9, 30 to 43 and 45 to 50: feasts, the days that pass, and the coins. */
final class FeastTests {
    private static final Class<IndexOutOfBoundsException> NO_SUCH = IndexOutOfBoundsException.class;
    private static final Class<IllegalArgumentException> OUT_OF_RANGE = IllegalArgumentException.class;
    private static final Class<IllegalStateException> NOT_NOW = IllegalStateException.class;

    private FeastTests() {
    }

    static void run() {
        announceAnswersNumbers();
        announceRefuses();
        setLineAnswersAllPlaces();
        setLineRefuses();
        passDaysCountsFeasts();
        passDaysRefuses();
        whyNotTellsTheFirstReason();
        whyNotRefuses();
        lineupTakesTheFirstGoodLine();
        lineupKeepsEveryPlaceFilled();
        lineupLeavesOutTheLastSingers();
        shortfallIsToldTwice();
        neededLineIsTheFirst();
        descantGoesRound();
        descantOfSeveral();
        pewsByHeight();
        heldFeastsStay();
        firstShortFeastIsTheEarliest();
        coinsAreSettled();
        borrowedSingersLeaveBeforeTheFeast();
        twentyFeasts();
        unknownFeastsAreRefused();
    }

    private static void addSingers(Register x, int[]... ranges) {
        for (int[] range : ranges) {
            x.register(20, 150, range[0], range[1], 0);
        }
    }

    private static void checkLines(String what, Register x, int feast, int... want) {
        for (int singer = 0; singer < want.length; singer++) {
            Checks.same(what + ": line of singer " + singer, want[singer], x.lineOf(feast, singer));
        }
    }

    private static void announceAnswersNumbers() {
        Register x = new Register();
        Checks.same("30: none", 0, x.feasts());
        Checks.same("7: first", 0, x.announce(9999, 1));
        Checks.same("7: second", 1, x.announce(1, 3));
        Checks.same("7: third", 2, x.announce(2, 2));
        Checks.same("30: three", 3, x.feasts());
        Checks.same("31: day of the first", 9999, x.dayOf(0));
        Checks.same("31: day of the second", 1, x.dayOf(1));
        Checks.same("7: recorded", 3, x.recordedStates());
        Checks.same("33: no places at first", 0, x.placesIn(0, 3));
        x.undo();
        Checks.same("7: undone", 2, x.feasts());
        Checks.same("7: the day is free again", 2, x.announce(2, 2));
        x.undo();
        x.passDays(1);
        Checks.same("30: also those that were held", 2, x.feasts());
        Checks.same("31: also of one that was held", 1, x.dayOf(1));
        Checks.same("32: held", true, x.isHeld(1));
        Checks.same("32: not held", false, x.isHeld(0));
    }

    private static void announceRefuses() {
        Register x = new Register();
        x.announce(12, 1);
        x.passDays(10);
        Checks.refuses(x, OUT_OF_RANGE, "7: today", () -> x.announce(10, 1));
        Checks.refuses(x, OUT_OF_RANGE, "7: yesterday", () -> x.announce(9, 1));
        Checks.refuses(x, OUT_OF_RANGE, "7: day 10000", () -> x.announce(10000, 1));
        Checks.refuses(x, OUT_OF_RANGE, "7: least int", () -> x.announce(Integer.MIN_VALUE, 1));
        Checks.refuses(x, OUT_OF_RANGE, "7: rank 0", () -> x.announce(11, 0));
        Checks.refuses(x, OUT_OF_RANGE, "7: rank 4", () -> x.announce(11, 4));
        Checks.refuses(x, OUT_OF_RANGE, "7: rank 4 on the day of a feast", () -> x.announce(12, 4));
        Checks.refuses(x, NOT_NOW, "7: a feast on this day", () -> x.announce(12, 2));
        for (int i = 1; i < 20; i++) {
            Checks.same("7: up to twenty", i, x.announce(100 - i, 3));
        }
        Checks.refuses(x, NOT_NOW, "7: the twenty-first", () -> x.announce(200, 3));
        Checks.refuses(x, OUT_OF_RANGE, "7: the twenty-first, rank 0", () -> x.announce(200, 0));
        Calls.pass(x, 99);
        Checks.refuses(x, NOT_NOW, "7: held ones count", () -> x.announce(200, 3));
    }

    private static void setLineAnswersAllPlaces() {
        Register x = new Register();
        x.announce(5, 1);
        x.announce(6, 1);
        Checks.same("8: one line", 6, x.setLine(0, 0, 6, 0, 48));
        Checks.same("8: two lines", 9, x.setLine(0, 3, 3, 48, 48));
        Checks.same("8: set again", 4, x.setLine(0, 0, 1, 0, 0));
        Checks.same("8: another feast", 2, x.setLine(1, 1, 2, 20, 30));
        Checks.same("8: no places", 3, x.setLine(0, 0, 0, 20, 30));
        Checks.same("33: line 3", 3, x.placesIn(0, 3));
        Checks.same("33: line 0", 0, x.placesIn(0, 0));
        Checks.same("33: line 1 of the other", 2, x.placesIn(1, 1));
        Checks.same("8: recorded", 4, x.recordedStates());
        x.undo();
        Checks.same("8: undone", 1, x.placesIn(0, 0));
    }

    private static void setLineRefuses() {
        Register x = new Register();
        x.announce(5, 1);
        x.announce(6, 1);
        x.setLine(0, 1, 2, 10, 20);
        int[][] none = {{2, 0, 1, 10, 20}, {-1, 0, 1, 10, 20}, {0, -1, 1, 10, 20}, {0, 4, 1, 10, 20}, {0, 4, 9, 9, 8}};
        int[][] wrong = {{0, 0, -1, 10, 20}, {0, 0, 7, 10, 20}, {0, 0, 1, -1, 20}, {0, 0, 1, 10, 49},
            {0, 0, 1, 21, 20}, {0, 0, 1, 49, 49}};
        refuseSetLine(x, NO_SUCH, none);
        refuseSetLine(x, OUT_OF_RANGE, wrong);
        x.passDays(5);
        refuseSetLine(x, NO_SUCH, none);
        refuseSetLine(x, OUT_OF_RANGE, wrong);
        refuseSetLine(x, NOT_NOW, new int[][] {{0, 0, 1, 10, 20}});
        Checks.same("8: of one to come", 1, x.setLine(1, 0, 1, 10, 20));
    }

    private static void refuseSetLine(Register x, Class<? extends RuntimeException> want, int[][] rows) {
        for (int[] n : rows) {
            Checks.refuses(x, want, "8: setLine " + java.util.Arrays.toString(n),
                () -> x.setLine(n[0], n[1], n[2], n[3], n[4]));
        }
    }

    private static void passDaysCountsFeasts() {
        Register x = new Register();
        Checks.same("50: day 0", 0, x.day());
        x.announce(99, 1);
        x.announce(98, 1);
        x.announce(100, 1);
        Checks.same("9: none", 0, x.passDays(97));
        Checks.same("50: day 97", 97, x.day());
        Checks.same("9: two", 2, x.passDays(2));
        Checks.same("32: held", true, x.isHeld(0));
        Checks.same("32: not yet", false, x.isHeld(2));
        Checks.same("9: recorded", 4, x.recordedStates());
        x.undo();
        Checks.same("50: undone", 97, x.day());
        Checks.same("32: undone", false, x.isHeld(0));
        Checks.same("9: three", 3, x.passDays(99));
        Checks.same("50: day 196", 196, x.day());
    }

    private static void passDaysRefuses() {
        Register x = new Register();
        x.announce(9999, 1);
        for (int days : new int[] {0, 100, -1, Integer.MIN_VALUE, Integer.MAX_VALUE}) {
            Checks.refuses(x, OUT_OF_RANGE, "9: days " + days, () -> x.passDays(days));
        }
        Calls.pass(x, 9990);
        Checks.refuses(x, NOT_NOW, "9: day 10000", () -> x.passDays(10));
        Checks.refuses(x, OUT_OF_RANGE, "9: days 100, too late as well", () -> x.passDays(100));
        Checks.same("9: up to day 9999", 1, x.passDays(9));
        Checks.refuses(x, NOT_NOW, "9: after day 9999", () -> x.passDays(1));
        Checks.refuses(x, OUT_OF_RANGE, "7: no day is left", () -> x.announce(10000, 1));
    }

    private static void whyNotTellsTheFirstReason() {
        Register x = new Register();
        x.register(11, 150, 20, 30, 12);
        x.announce(360, 1);
        x.announce(361, 1);
        x.setLine(0, 0, 0, 19, 31);
        x.setLine(0, 1, 1, 20, 31);
        x.setLine(0, 2, 1, 20, 30);
        Checks.same("34: breaking before the range", ChoirRegister.BREAKING, x.whyNot(0, 0, 0));
        Calls.pass(x, 300);
        x.excuse(0, 360, 360);
        Checks.same("34: excused before breaking", ChoirRegister.EXCUSED, x.whyNot(0, 0, 0));
        Checks.same("34: not excused on the day after", ChoirRegister.BREAKING, x.whyNot(1, 0, 0));
        x.lend(0, 0, 60);
        Checks.same("34: away before excused", ChoirRegister.AWAY, x.whyNot(0, 0, 0));
        x.leave(0);
        Checks.same("34: has left before away", ChoirRegister.HAS_LEFT, x.whyNot(0, 0, 0));
        addSingers(x, new int[] {20, 30}, new int[] {19, 31}, new int[] {0, 48});
        Checks.same("34: too low before too high", ChoirRegister.TOO_LOW, x.whyNot(0, 1, 0));
        Checks.same("34: too high", ChoirRegister.TOO_HIGH, x.whyNot(0, 1, 1));
        Checks.same("34: just fits", 0, x.whyNot(0, 1, 2));
        Checks.same("34: whether there are places or not", 0, x.whyNot(0, 2, 0));
        Checks.same("34: a line that was not set is low", ChoirRegister.TOO_LOW, x.whyNot(0, 1, 3));
        Checks.same("34: notes of 0", 0, x.whyNot(0, 3, 3));
    }

    private static void whyNotRefuses() {
        Register x = new Register();
        x.register(11, 150, 20, 30, 12);
        x.announce(3, 1);
        int[][] none = {{1, 0, 0}, {-1, 0, 0}, {0, 1, 0}, {0, -1, 0}, {0, 0, 4}, {0, 0, -1}};
        refuseWhyNot(x, NO_SUCH, none);
        x.passDays(3);
        refuseWhyNot(x, NO_SUCH, none);
        refuseWhyNot(x, NOT_NOW, new int[][] {{0, 0, 0}});
    }

    private static void refuseWhyNot(Register x, Class<? extends RuntimeException> want, int[][] rows) {
        for (int[] n : rows) {
            Checks.refuses(x, want, "34: whyNot " + java.util.Arrays.toString(n), () -> x.whyNot(n[0], n[1], n[2]));
        }
    }

    private static void lineupTakesTheFirstGoodLine() {
        Register x = new Register();
        addSingers(x, new int[] {0, 48}, new int[] {0, 48}, new int[] {0, 48}, new int[] {40, 48});
        x.announce(3, 1);
        x.setLine(0, 1, 2, 10, 20);
        x.setLine(0, 2, 1, 10, 20);
        checkLines("35: first line with a place", x, 0, 1, 1, 2, -1);
        Checks.same("36: line 0", 0, x.singersIn(0, 0));
        Checks.same("36: line 1", 2, x.singersIn(0, 1));
        Checks.same("36: line 2", 1, x.singersIn(0, 2));
        Checks.same("37: all are filled", 0, x.shortfall(0));
    }

    private static void lineupKeepsEveryPlaceFilled() {
        Register x = new Register();
        addSingers(x, new int[] {10, 40}, new int[] {10, 30}, new int[] {30, 48}, new int[] {20, 48});
        x.announce(3, 1);
        x.setLine(0, 0, 1, 31, 48);
        x.setLine(0, 1, 1, 10, 30);
        x.setLine(0, 2, 1, 30, 40);
        x.setLine(0, 3, 1, 31, 47);
        checkLines("35: a chain of four", x, 0, 2, 1, 0, 3);
        x.setLine(0, 1, 1, 12, 40);
        checkLines("35: the second one fits nothing", x, 0, 1, -1, 0, 2);
        Checks.same("37: one place is open", 1, x.shortfall(0));
    }

    private static void lineupLeavesOutTheLastSingers() {
        Register x = new Register();
        for (int i = 0; i < 30; i++) {
            x.register(20, 150, 0, 48, 0);
        }
        x.announce(3, 1);
        x.setLine(0, 0, 6, 0, 48);
        x.setLine(0, 1, 6, 0, 48);
        x.setLine(0, 2, 6, 0, 48);
        x.setLine(0, 3, 6, 0, 48);
        for (int singer = 0; singer < 30; singer++) {
            Checks.same("35: singer " + singer, singer < 24 ? singer / 6 : -1, x.lineOf(0, singer));
        }
        Checks.same("36: six in the last line", 6, x.singersIn(0, 3));
        Checks.same("37: none is missing", 0, x.shortfall(0));
        Checks.same("38: none is missing", 0, x.shortfallBySets(0));
        x.passDays(3);
        Checks.same("47: all have sung", 24, x.collected());
        Checks.same("28: one without a line", 0, x.feastsOf(24));
        Checks.same("28: one with a line", 1, x.feastsOf(23));
    }

    private static void shortfallIsToldTwice() {
        Register x = new Register();
        x.announce(3, 1);
        Checks.same("37: no places", 0, x.shortfall(0));
        Checks.same("38: no places", 0, x.shortfallBySets(0));
        x.setLine(0, 0, 6, 20, 30);
        x.setLine(0, 1, 2, 20, 30);
        Checks.same("37: nobody", 8, x.shortfall(0));
        Checks.same("38: nobody", 8, x.shortfallBySets(0));
        addSingers(x, new int[] {20, 30}, new int[] {0, 10}, new int[] {0, 10});
        x.setLine(0, 2, 1, 0, 10);
        Checks.same("37: a spare singer of one line helps no other", 7, x.shortfall(0));
        Checks.same("38: a spare singer of one line helps no other", 7, x.shortfallBySets(0));
        x.passDays(3);
        Checks.same("37: also of one that was held", 7, x.shortfall(0));
        Checks.refuses(x, NOT_NOW, "38: held", () -> x.shortfallBySets(0));
    }

    private static void neededLineIsTheFirst() {
        Register x = new Register();
        addSingers(x, new int[] {20, 30}, new int[] {0, 10});
        x.announce(3, 1);
        Checks.same("39: no places", -1, x.neededLine(0));
        x.setLine(0, 1, 1, 20, 30);
        x.setLine(0, 2, 1, 0, 10);
        Checks.same("39: no shortfall", -1, x.neededLine(0));
        x.setLine(0, 3, 2, 0, 5);
        Checks.same("39: line 2 shares its singer with line 3", 2, x.neededLine(0));
        x.setLine(0, 3, 2, 35, 40);
        Checks.same("39: lines 1 and 2 have their own", 3, x.neededLine(0));
        x.setLine(0, 0, 1, 25, 26);
        Checks.same("39: line 0 shares its singer with line 1", 0, x.neededLine(0));
        x.passDays(3);
        Checks.refuses(x, NOT_NOW, "39: held", () -> x.neededLine(0));
    }

    private static void descantGoesRound() {
        Register x = new Register();
        x.register(20, 150, 10, 30, 0);
        x.register(20, 150, 10, 30, 0);
        x.register(21, 150, 10, 30, 0);
        for (int feast = 0; feast < 5; feast++) {
            x.announce(10 - feast, 1);
            x.setLine(feast, 0, 3, 15, 20);
        }
        x.setLine(2, 0, 0, 15, 20);
        // Feasts 4, 3, 1 and 0 come in this order; the oldest one begins, and feast 2 has no line 0.
        int[] want = {2, 1, -1, 0, 2};
        for (int feast = 0; feast < 5; feast++) {
            Checks.same("40: to come, feast " + feast, want[feast], x.descantIn(feast));
        }
        x.passDays(7);
        Checks.same("40: held", 2, x.descantIn(4));
        Checks.same("40: held", 0, x.descantIn(3));
        Checks.same("40: one without line 0", -1, x.descantIn(2));
        Checks.same("40: after two were held", 1, x.descantIn(1));
        x.passDays(10);
        for (int feast = 0; feast < 5; feast++) {
            Checks.same("40: held, feast " + feast, want[feast], x.descantIn(feast));
        }
    }

    private static void descantOfSeveral() {
        Register x = new Register();
        x.passDays(1);
        x.register(20, 150, 10, 30, 0);
        x.passDays(1);
        x.register(20, 150, 10, 30, 0);
        x.announce(10, 1);
        x.announce(11, 1);
        x.setLine(0, 0, 6, 15, 20);
        x.setLine(1, 0, 6, 15, 20);
        Checks.same("40: older by a day", 0, x.descantIn(0));
        Checks.same("40: fewest descants", 1, x.descantIn(1));
        x.register(20, 150, 0, 5, 0);
        x.register(30, 150, 10, 30, 0);
        x.borrow(0, 0, 150, 10, 30, 20);
        Checks.same("40: of the same age the first", 3, x.descantIn(0));
        Checks.same("40: then the borrowed one", 4, x.descantIn(1));
        x.setLine(0, 0, 2, 15, 20);
        Checks.same("40: only those in line 0", 0, x.descantIn(0));
    }

    private static void pewsByHeight() {
        Register x = new Register();
        int[] height = {180, 150, 170, 150, 160, 140, 130};
        for (int i = 0; i < height.length; i++) {
            x.register(20, height[i], 10, 30, 0);
        }
        x.announce(3, 1);
        x.setLine(0, 1, 5, 15, 20);
        x.setLine(0, 2, 1, 15, 20);
        int[] pew = {2, 0, 1, 0, 1, 0, -1};
        int[] seat = {0, 0, 1, 1, 0, 0, -1};
        checkSeats(x, pew, seat);
        x.passDays(3);
        x.leave(1);
        checkSeats(x, pew, seat);
    }

    private static void checkSeats(Register x, int[] pew, int[] seat) {
        for (int singer = 0; singer < pew.length; singer++) {
            Checks.same("41: pew of " + singer, pew[singer], x.pewOf(0, singer));
            Checks.same("42: seat of " + singer, seat[singer], x.seatOf(0, singer));
        }
    }

    private static void heldFeastsStay() {
        Register x = new Register();
        addSingers(x, new int[] {10, 30}, new int[] {10, 30});
        x.announce(3, 2);
        x.setLine(0, 0, 3, 15, 20);
        x.passDays(3);
        x.leave(0);
        x.excuse(1, 4, 5);
        x.register(50, 100, 10, 30, 0);
        checkLines("35: held", x, 0, 0, 0, -1);
        Checks.same("37: held", 1, x.shortfall(0));
        Checks.same("36: held", 2, x.singersIn(0, 0));
        Checks.same("40: held", 0, x.descantIn(0));
        Checks.same("41: one who came later", -1, x.pewOf(0, 2));
        Checks.same("42: one who came later", -1, x.seatOf(0, 2));
        Checks.same("42: second seat", 1, x.seatOf(0, 1));
        Checks.same("33: held", 3, x.placesIn(0, 0));
    }

    private static void firstShortFeastIsTheEarliest() {
        Register x = new Register();
        Checks.same("43: no feasts", -1, x.firstShortFeast());
        addSingers(x, new int[] {10, 30});
        x.announce(9, 1);
        x.announce(5, 1);
        x.announce(7, 1);
        Checks.same("43: no places", -1, x.firstShortFeast());
        x.setLine(0, 0, 2, 10, 20);
        x.setLine(1, 0, 1, 10, 20);
        Checks.same("43: the first one is full", 0, x.firstShortFeast());
        x.setLine(2, 0, 2, 10, 20);
        Checks.same("43: by day, not by number", 2, x.firstShortFeast());
        x.excuse(0, 5, 5);
        Checks.same("43: a singer is excused", 1, x.firstShortFeast());
        x.passDays(5);
        Checks.same("43: not one that was held", 2, x.firstShortFeast());
        x.passDays(5);
        Checks.same("43: none to come", -1, x.firstShortFeast());
    }

    private static void coinsAreSettled() {
        Register x = new Register();
        Checks.same("45: at first", 50, x.purse());
        Checks.same("46: at first", 50, x.purseByAccounts());
        addSingers(x, new int[] {10, 30}, new int[] {40, 48});
        x.borrow(0, 9, 150, 10, 30, 90);
        x.borrow(1, 4, 150, 0, 5, 90);
        x.announce(3, 3);
        x.announce(4, 2);
        x.setLine(0, 0, 4, 15, 20);
        x.setLine(0, 3, 1, 48, 48);
        x.setLine(1, 0, 6, 15, 48);
        x.setLine(1, 1, 6, 0, 48);
        x.lend(1, 2, 3);
        Checks.same("45: lending pays", 56, x.purse());
        x.passDays(3);
        Checks.same("47: two have sung", 6, x.collected());
        Checks.same("48: one of them is borrowed", 9, x.fees());
        Checks.same("49: three are missing", 9, x.fines());
        Checks.same("45: purse", 44, x.purse());
        Checks.same("46: purse by accounts", 44, x.purseByAccounts());
        x.passDays(1);
        Checks.same("47: nobody more", 6, x.collected());
        Checks.same("48: no fee more", 9, x.fees());
        Checks.same("49: twelve more", 33, x.fines());
        Checks.same("45: purse", 20, x.purse());
        x.announce(5, 3);
        x.setLine(2, 0, 6, 0, 48);
        x.setLine(2, 1, 6, 0, 48);
        x.passDays(1);
        Checks.same("45: negative", -16, x.purse());
        Checks.same("46: negative", -16, x.purseByAccounts());
        x.undo();
        Checks.same("49: undone", 33, x.fines());
        Checks.same("46: undone", 20, x.purseByAccounts());
    }

    private static void borrowedSingersLeaveBeforeTheFeast() {
        Register x = new Register();
        x.borrow(0, 3, 150, 10, 30, 4);
        x.announce(4, 1);
        x.announce(5, 1);
        x.setLine(0, 0, 1, 15, 20);
        x.setLine(1, 0, 1, 15, 20);
        Checks.same("35: on the last day", 0, x.lineOf(0, 0));
        Checks.same("35: on the day after", -1, x.lineOf(1, 0));
        Checks.same("9: both are held", 2, x.passDays(20));
        Checks.same("28: sang once", 1, x.feastsOf(0));
        Checks.same("48: was paid once", 3, x.fees());
        Checks.same("35: held, on the last day", 0, x.lineOf(0, 0));
        Checks.same("35: held, on the day after", -1, x.lineOf(1, 0));
    }

    private static void twentyFeasts() {
        Register x = new Register();
        addSingers(x, new int[] {10, 30}, new int[] {10, 30}, new int[] {10, 30});
        for (int feast = 0; feast < 20; feast++) {
            x.announce(50 - feast, 1);
            x.setLine(feast, 0, feast == 0 ? 6 : 3, 10, 20);
        }
        Checks.same("43: the last of twenty", 0, x.firstShortFeast());
        Checks.same("40: the last of twenty", 1, x.descantIn(0));
        Checks.same("9: all twenty", 20, x.passDays(60));
        Checks.same("40: the last of twenty, held", 1, x.descantIn(0));
        Checks.same("28: all twenty", 20, x.feastsOf(2));
        Checks.same("29: six of twenty", 6, x.descantsOf(2));
        Checks.same("49: the last one was short", 3, x.fines());
    }

    private static void unknownFeastsAreRefused() {
        Register x = new Register();
        x.register(20, 150, 10, 30, 0);
        x.announce(5, 1);
        for (int n : new int[] {-1, 1, 19, 20, Integer.MIN_VALUE, Integer.MAX_VALUE}) {
            Checks.refuses(x, NO_SUCH, "31: dayOf", () -> x.dayOf(n));
            Checks.refuses(x, NO_SUCH, "32: isHeld", () -> x.isHeld(n) ? 1 : 0);
            Checks.refuses(x, NO_SUCH, "33: placesIn", () -> x.placesIn(n, 0));
            Checks.refuses(x, NO_SUCH, "35: lineOf, feast", () -> x.lineOf(n, 0));
            Checks.refuses(x, NO_SUCH, "35: lineOf, singer", () -> x.lineOf(0, n));
            Checks.refuses(x, NO_SUCH, "36: singersIn", () -> x.singersIn(n, 0));
            Checks.refuses(x, NO_SUCH, "37: shortfall", () -> x.shortfall(n));
            Checks.refuses(x, NO_SUCH, "38: shortfallBySets", () -> x.shortfallBySets(n));
            Checks.refuses(x, NO_SUCH, "39: neededLine", () -> x.neededLine(n));
            Checks.refuses(x, NO_SUCH, "40: descantIn", () -> x.descantIn(n));
            Checks.refuses(x, NO_SUCH, "41: pewOf, feast", () -> x.pewOf(n, 0));
            Checks.refuses(x, NO_SUCH, "41: pewOf, singer", () -> x.pewOf(0, n));
            Checks.refuses(x, NO_SUCH, "42: seatOf, feast", () -> x.seatOf(n, 0));
            Checks.refuses(x, NO_SUCH, "42: seatOf, singer", () -> x.seatOf(0, n));
        }
        for (int line : new int[] {-1, 4, Integer.MIN_VALUE, Integer.MAX_VALUE}) {
            Checks.refuses(x, NO_SUCH, "33: line", () -> x.placesIn(0, line));
            Checks.refuses(x, NO_SUCH, "36: line", () -> x.singersIn(0, line));
        }
    }
}
