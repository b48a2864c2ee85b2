/** Promises 2 to 6 and 18 to 29: the actions on singers, and singers as they are. */
final class SingerTests {
    private static final Class<IndexOutOfBoundsException> NO_SUCH = IndexOutOfBoundsException.class;
    private static final Class<IllegalArgumentException> OUT_OF_RANGE = IllegalArgumentException.class;
    private static final Class<IllegalStateException> NOT_NOW = IllegalStateException.class;

    private SingerTests() {
    }

    static void run() {
        registerAnswersNumbers();
        registerRefuses();
        leaveCountsThoseWhoStay();
        leaveRefuses();
        borrowAnswersNumbers();
        borrowedSingersLeaveInTime();
        borrowRefuses();
        lendPaysAtOnce();
        lendRefuses();
        excuseCountsNotes();
        excuseRefuses();
        agesGrowByTheDays();
        voicesBreak();
        breakDays();
        nextToBreakIsTheEarliest();
        choirs();
        awayUntilTheLastDay();
        excusedDays();
        feastsAndDescantsAreCounted();
        unknownSingersAreRefused();
    }

    private static void registerAnswersNumbers() {
        Register x = new Register();
        Checks.same("2: first", 0, x.register(7, 90, 0, 0, 0));
        Checks.same("2: second", 1, x.register(70, 210, 48, 48, 12));
        Checks.same("2: third", 2, x.register(11, 150, 0, 48, 17));
        Checks.same("18: borrowed ones count", 3, x.borrow(0, 0, 90, 0, 0, 1));
        Checks.same("18: singers", 4, x.singers());
        x.leave(0);
        Checks.same("18: one who has left counts", 4, x.singers());
        Checks.same("2: numbers are not used again", 4, x.register(8, 100, 5, 5, 13));
        Checks.same("2: age", 8, x.ageOf(4));
        Checks.same("2: lowest", 5, x.lowestNoteOf(4));
        Checks.same("2: it is an action", 4, x.recordedStates());
        x.undo();
        Checks.same("2: undone", 4, x.singers());
    }

    private static void registerRefuses() {
        Register x = new Register();
        int[][] wrong = {
            {6, 150, 10, 20, 0}, {71, 150, 10, 20, 0}, {10, 89, 10, 20, 0}, {10, 211, 10, 20, 0},
            {10, 150, -1, 20, 0}, {10, 150, 49, 49, 0}, {10, 150, 20, 19, 0}, {10, 150, 10, 49, 0},
            {10, 150, 10, 20, 11}, {10, 150, 10, 20, 18}, {10, 150, 10, 20, -1}, {10, 150, 10, 20, 1},
            {Integer.MIN_VALUE, 150, 10, 20, 0}, {10, Integer.MAX_VALUE, 10, 20, 0},
            {10, 150, Integer.MIN_VALUE, 20, 0}, {10, 150, 10, Integer.MAX_VALUE, 0}};
        x.register(10, 150, 10, 20, 12);
        refuseRegister(x, OUT_OF_RANGE, wrong);
        for (int i = 1; i < 30; i++) {
            Checks.same("2: up to thirty", i, x.register(10, 150, 10, 20, 12));
        }
        refuseRegister(x, NOT_NOW, new int[][] {{10, 150, 10, 20, 0}});
        refuseRegister(x, OUT_OF_RANGE, wrong);
        x.leave(3);
        refuseRegister(x, NOT_NOW, new int[][] {{10, 150, 10, 20, 0}});
    }

    private static void refuseRegister(Register x, Class<? extends RuntimeException> want, int[][] rows) {
        for (int[] n : rows) {
            Checks.refuses(x, want, "2: register " + java.util.Arrays.toString(n),
                () -> x.register(n[0], n[1], n[2], n[3], n[4]));
        }
    }

    private static void leaveCountsThoseWhoStay() {
        Register x = new Register();
        x.register(20, 150, 0, 48, 0);
        x.register(20, 150, 0, 48, 0);
        x.borrow(1, 2, 150, 0, 48, 3);
        x.register(20, 150, 0, 48, 0);
        Checks.same("19: in the choir", true, x.isInChoir(1));
        Checks.same("3: three stay", 3, x.leave(1));
        Checks.same("19: has left", false, x.isInChoir(1));
        Checks.same("19: others stay", true, x.isInChoir(0));
        Checks.same("3: recorded", 4, x.recordedStates());
        x.lend(0, 2, 9);
        Checks.same("19: away, but in the choir", true, x.isInChoir(0));
        x.passDays(4);
        Checks.same("3: a borrowed one whose time is over is not counted", 1, x.leave(3));
        x.undo();
        Checks.same("3: undone", true, x.isInChoir(3));
        Checks.same("3: one who is away may leave", 1, x.leave(0));
        Checks.same("3: the last one", 0, x.leave(3));
    }

    private static void leaveRefuses() {
        Register x = new Register();
        Checks.refuses(x, NO_SUCH, "3: leave of none", () -> x.leave(0));
        x.register(20, 150, 0, 48, 0);
        x.borrow(1, 2, 150, 0, 48, 3);
        Checks.refuses(x, NO_SUCH, "3: leave(-1)", () -> x.leave(-1));
        Checks.refuses(x, NO_SUCH, "3: leave(2)", () -> x.leave(2));
        Checks.refuses(x, NO_SUCH, "3: leave(min)", () -> x.leave(Integer.MIN_VALUE));
        x.leave(0);
        Checks.refuses(x, NOT_NOW, "3: leave twice", () -> x.leave(0));
        x.passDays(4);
        Checks.refuses(x, NOT_NOW, "3: leave when the time is over", () -> x.leave(1));
    }

    private static void borrowAnswersNumbers() {
        Register x = new Register();
        Checks.same("4: first", 0, x.borrow(4, 9, 90, 0, 0, 1));
        Checks.same("4: second", 1, x.borrow(0, 0, 210, 48, 48, 90));
        Checks.same("4: third", 2, x.borrow(4, 9, 210, 30, 48, 90));
        Checks.same("4: recorded", 3, x.recordedStates());
        Checks.same("4: thirty years", 30, x.ageOf(0));
        Checks.same("4: no break age", -1, x.breakDayOf(0));
        Checks.same("4: favours of 4", -2, x.favoursOf(4));
        Checks.same("4: favours of 0", -1, x.favoursOf(0));
        Checks.same("4: nothing is paid yet", 50, x.purse());
        Checks.same("4: lowest", 30, x.lowestNoteOf(2));
        Checks.same("4: highest", 48, x.highestNoteOf(2));
        x.undo();
        Checks.same("4: undone", 2, x.singers());
        Checks.same("4: favours undone", -1, x.favoursOf(4));
    }

    private static void borrowedSingersLeaveInTime() {
        Register x = new Register();
        x.passDays(10);
        x.borrow(3, 1, 150, 0, 48, 5);
        x.announce(15, 1);
        x.announce(16, 1);
        Checks.same("4: sings on the last day", 0, x.whyNot(0, 0, 0));
        Checks.same("4: has left by then", ChoirRegister.HAS_LEFT, x.whyNot(1, 0, 0));
        x.passDays(5);
        Checks.same("4: still there", true, x.isInChoir(0));
        x.passDays(1);
        Checks.same("4: has left", false, x.isInChoir(0));
        Checks.same("4: favours stay", -1, x.favoursOf(3));
    }

    private static void borrowRefuses() {
        Register x = new Register();
        int[][] wrong = {
            {0, -1, 150, 10, 20, 5}, {0, 10, 150, 10, 20, 5}, {0, 1, 89, 10, 20, 5}, {0, 1, 211, 10, 20, 5},
            {0, 1, 150, -1, 20, 5}, {0, 1, 150, 21, 20, 5}, {0, 1, 150, 10, 49, 5}, {0, 1, 150, 10, 20, 0},
            {0, 1, 150, 10, 20, 91}, {0, 1, 150, 10, 20, -1}};
        refuseBorrow(x, OUT_OF_RANGE, wrong);
        refuseBorrow(x, NO_SUCH, new int[][] {{-1, 1, 150, 10, 20, 5}, {5, 1, 150, 10, 20, 5}, {5, 99, 0, 0, 0, 0}});
        x.borrow(0, 1, 150, 10, 20, 5);
        x.borrow(0, 1, 150, 10, 20, 5);
        Checks.same("4: the third one", 2, x.borrow(0, 1, 150, 10, 20, 5));
        refuseBorrow(x, NOT_NOW, new int[][] {{0, 1, 150, 10, 20, 5}});
        refuseBorrow(x, OUT_OF_RANGE, wrong);
        x.passDays(50);
        refuseBorrow(x, NOT_NOW, new int[][] {{0, 1, 150, 10, 20, 5}});
        x.register(20, 150, 10, 20, 0);
        x.lend(3, 0, 1);
        Checks.same("4: a favour was done", 4, x.borrow(0, 1, 150, 10, 20, 5));
        for (int i = 5; i < 30; i++) {
            x.register(20, 150, 10, 20, 0);
        }
        refuseBorrow(x, NOT_NOW, new int[][] {{1, 1, 150, 10, 20, 5}});
        refuseBorrow(x, OUT_OF_RANGE, wrong);
        refuseBorrow(x, NO_SUCH, new int[][] {{5, 1, 150, 10, 20, 5}});
    }

    private static void refuseBorrow(Register x, Class<? extends RuntimeException> want, int[][] rows) {
        for (int[] n : rows) {
            Checks.refuses(x, want, "4: borrow " + java.util.Arrays.toString(n),
                () -> x.borrow(n[0], n[1], n[2], n[3], n[4], n[5]));
        }
    }

    private static void lendPaysAtOnce() {
        Register x = new Register();
        x.register(20, 150, 0, 48, 0);
        x.passDays(7);
        Checks.same("5: away up to", 97, x.lend(0, 4, 90));
        Checks.same("5: purse", 230, x.purse());
        Checks.same("5: purse by accounts", 230, x.purseByAccounts());
        Checks.same("5: favours", 1, x.favoursOf(4));
        Checks.same("5: recorded", 3, x.recordedStates());
        x.undo();
        Checks.same("5: purse undone", 50, x.purse());
        Checks.same("5: accounts undone", 50, x.purseByAccounts());
        Checks.same("5: not away", -1, x.awayUntil(0));
        Checks.same("5: one day", 8, x.lend(0, 0, 1));
        x.passDays(2);
        Checks.same("5: again when back", 10, x.lend(0, 0, 1));
        Checks.same("5: two favours", 2, x.favoursOf(0));
        Checks.same("5: 2 coins a day", 54, x.purse());
    }

    private static void lendRefuses() {
        Register x = new Register();
        x.register(20, 150, 0, 48, 0);
        x.register(20, 150, 0, 48, 0);
        x.borrow(0, 1, 150, 0, 48, 90);
        x.leave(1);
        Checks.refuses(x, NO_SUCH, "5: no such singer", () -> x.lend(3, 0, 5));
        Checks.refuses(x, NO_SUCH, "5: singer -1", () -> x.lend(-1, 0, 5));
        Checks.refuses(x, NO_SUCH, "5: choir 5", () -> x.lend(0, 5, 5));
        Checks.refuses(x, NO_SUCH, "5: choir -1, days 0", () -> x.lend(0, -1, 0));
        Checks.refuses(x, NO_SUCH, "5: one who has left, choir 5", () -> x.lend(1, 5, 5));
        Checks.refuses(x, OUT_OF_RANGE, "5: days 0", () -> x.lend(0, 0, 0));
        Checks.refuses(x, OUT_OF_RANGE, "5: days 91", () -> x.lend(0, 0, 91));
        Checks.refuses(x, OUT_OF_RANGE, "5: has left and days 0", () -> x.lend(1, 0, 0));
        Checks.refuses(x, NOT_NOW, "5: has left", () -> x.lend(1, 0, 5));
        Checks.refuses(x, NOT_NOW, "5: borrowed", () -> x.lend(2, 0, 5));
        x.lend(0, 0, 5);
        Checks.refuses(x, NOT_NOW, "5: away", () -> x.lend(0, 0, 5));
        x.passDays(5);
        Checks.refuses(x, NOT_NOW, "5: away on the last day", () -> x.lend(0, 1, 5));
        x.passDays(1);
        Checks.same("5: back", 11, x.lend(0, 1, 5));
    }

    private static void excuseCountsNotes() {
        Register x = new Register();
        x.register(20, 150, 0, 48, 0);
        x.register(20, 150, 0, 48, 0);
        Checks.same("6: first note", 1, x.excuse(0, 1, 61));
        Checks.same("6: of another singer", 1, x.excuse(1, 1, 61));
        Checks.same("6: second note", 2, x.excuse(0, 62, 62));
        Checks.same("6: recorded", 4, x.recordedStates());
        Checks.same("6: after the last day", 3, x.excuse(0, 9999, 10059));
        x.undo();
        Checks.same("6: undone", 3, x.excuse(0, 9999, 9999));
        x.lend(0, 0, 5);
        Checks.same("6: one who is away may send a note", 4, x.excuse(0, 70, 71));
        x.borrow(0, 0, 150, 0, 48, 2);
        Checks.same("6: a borrowed one too", 1, x.excuse(2, 70, 71));
    }

    private static void excuseRefuses() {
        Register x = new Register();
        x.register(20, 150, 0, 48, 0);
        x.register(20, 150, 0, 48, 0);
        x.passDays(10);
        x.excuse(0, 20, 30);
        Checks.refuses(x, NO_SUCH, "6: no such singer", () -> x.excuse(2, 11, 11));
        Checks.refuses(x, NO_SUCH, "6: singer -1, wrong day", () -> x.excuse(-1, 0, 0));
        Checks.refuses(x, OUT_OF_RANGE, "6: today", () -> x.excuse(0, 10, 12));
        Checks.refuses(x, OUT_OF_RANGE, "6: first 10000", () -> x.excuse(0, 10000, 10000));
        Checks.refuses(x, OUT_OF_RANGE, "6: last before first", () -> x.excuse(0, 12, 11));
        Checks.refuses(x, OUT_OF_RANGE, "6: 62 days", () -> x.excuse(0, 40, 101));
        Checks.refuses(x, OUT_OF_RANGE, "6: greatest int", () -> x.excuse(0, Integer.MAX_VALUE, Integer.MAX_VALUE));
        Checks.refuses(x, OUT_OF_RANGE, "6: least int", () -> x.excuse(0, 11, Integer.MIN_VALUE));
        Checks.refuses(x, OUT_OF_RANGE, "6: overlap and wrong", () -> x.excuse(0, 25, 24));
        Checks.refuses(x, NOT_NOW, "6: touches the first day", () -> x.excuse(0, 15, 20));
        Checks.refuses(x, NOT_NOW, "6: touches the last day", () -> x.excuse(0, 30, 40));
        Checks.refuses(x, NOT_NOW, "6: inside", () -> x.excuse(0, 24, 26));
        Checks.refuses(x, NOT_NOW, "6: around", () -> x.excuse(0, 19, 31));
        Checks.same("6: just before", 2, x.excuse(0, 19, 19));
        Checks.same("6: just after", 3, x.excuse(0, 31, 31));
        x.leave(1);
        Checks.refuses(x, NOT_NOW, "6: has left", () -> x.excuse(1, 50, 50));
        Checks.refuses(x, OUT_OF_RANGE, "6: has left and today", () -> x.excuse(1, 10, 10));
        x.register(20, 150, 0, 48, 0);
        for (int i = 4; i <= 60; i++) {
            Checks.same("6: up to sixty notes", i - 3, x.excuse(2, 100 + i, 100 + i));
        }
        Checks.refuses(x, NOT_NOW, "6: the sixty-first note", () -> x.excuse(0, 500, 500));
        Checks.refuses(x, OUT_OF_RANGE, "6: sixty notes, wrong day", () -> x.excuse(0, 0, 0));
    }

    private static void agesGrowByTheDays() {
        Register x = new Register();
        x.register(10, 150, 0, 48, 0);
        Calls.pass(x, 100);
        x.register(10, 150, 0, 48, 0);
        x.borrow(0, 0, 150, 0, 48, 90);
        x.leave(0);
        Calls.pass(x, 259);
        Checks.same("20: the day before the birthday", 10, x.ageOf(0));
        x.passDays(1);
        Checks.same("20: also of one who has left", 11, x.ageOf(0));
        Checks.same("20: the later one", 10, x.ageOf(1));
        Calls.pass(x, 99);
        Checks.same("20: the later one, the day before", 10, x.ageOf(1));
        x.passDays(1);
        Checks.same("20: the later one's birthday", 11, x.ageOf(1));
        Checks.same("20: the borrowed one's birthday", 31, x.ageOf(2));
    }

    private static void voicesBreak() {
        Register x = new Register();
        x.register(11, 150, 20, 40, 12);
        x.register(11, 150, 5, 11, 12);
        x.register(12, 150, 20, 40, 12);
        x.register(11, 150, 12, 13, 12);
        int[] days = {359, 360, 449, 450};
        int[] lowest = {20, 20, 20, 8};
        int[] highest = {40, 40, 40, 28};
        for (int i = 0; i < days.length; i++) {
            x.announce(days[i], 1);
        }
        int[] why = {0, ChoirRegister.BREAKING, ChoirRegister.BREAKING, ChoirRegister.TOO_HIGH};
        for (int i = 0; i < days.length; i++) {
            x.setLine(i, 1, 0, 21, 39);
            Checks.same("34: singing on day " + days[i], why[i], x.whyNot(i, 0, 1));
        }
        for (int i = 0; i < days.length; i++) {
            Calls.pass(x, days[i] - x.day());
            Checks.same("21: lowest on day " + days[i], lowest[i], x.lowestNoteOf(0));
            Checks.same("22: highest on day " + days[i], highest[i], x.highestNoteOf(0));
        }
        Checks.same("21: not below 0", 0, x.lowestNoteOf(1));
        Checks.same("22: not below 0", 0, x.highestNoteOf(1));
        Checks.same("21: never broke", 20, x.lowestNoteOf(2));
        Checks.same("22: never broke", 40, x.highestNoteOf(2));
        Checks.same("21: just 0", 0, x.lowestNoteOf(3));
        Checks.same("22: just 1", 1, x.highestNoteOf(3));
        x.leave(0);
        Checks.same("21: of one who has left", 8, x.lowestNoteOf(0));
        Checks.same("22: of one who has left", 28, x.highestNoteOf(0));
    }

    private static void breakDays() {
        Register x = new Register();
        x.passDays(5);
        x.register(7, 150, 0, 48, 17);
        x.register(16, 150, 0, 48, 17);
        x.register(17, 150, 0, 48, 17);
        x.register(18, 150, 0, 48, 17);
        x.register(7, 150, 0, 48, 0);
        Checks.same("23: ten years", 3605, x.breakDayOf(0));
        Checks.same("23: a year", 365, x.breakDayOf(1));
        Checks.same("23: already of that age", -1, x.breakDayOf(2));
        Checks.same("23: older", -1, x.breakDayOf(3));
        Checks.same("23: no break age", -1, x.breakDayOf(4));
        Calls.pass(x, 400);
        Checks.same("23: began", 365, x.breakDayOf(1));
        x.leave(1);
        Checks.same("23: has left", 365, x.breakDayOf(1));
    }

    private static void nextToBreakIsTheEarliest() {
        Register x = new Register();
        Checks.same("24: none", -1, x.nextToBreak());
        x.register(30, 150, 0, 48, 17);
        Checks.same("24: none whose voice breaks", -1, x.nextToBreak());
        x.register(10, 150, 0, 48, 13);
        x.register(10, 150, 0, 48, 12);
        x.register(11, 150, 0, 48, 13);
        Checks.same("24: of two the first", 2, x.nextToBreak());
        x.leave(2);
        Checks.same("24: not one who has left", 3, x.nextToBreak());
        x.lend(3, 0, 10);
        Checks.same("24: also one who is away", 3, x.nextToBreak());
        Calls.pass(x, 719);
        Checks.same("24: tomorrow", 3, x.nextToBreak());
        x.passDays(1);
        Checks.same("24: not today", 1, x.nextToBreak());
        Calls.pass(x, 360);
        Checks.same("24: none left", -1, x.nextToBreak());
    }

    private static void choirs() {
        Register x = new Register();
        x.register(20, 150, 0, 48, 0);
        x.borrow(0, 1, 150, 0, 48, 1);
        x.borrow(4, 1, 150, 0, 48, 1);
        x.lend(0, 3, 4);
        Checks.same("25: own", -1, x.choirOf(0));
        Checks.same("25: choir 0", 0, x.choirOf(1));
        Checks.same("25: choir 4", 4, x.choirOf(2));
        x.passDays(5);
        Checks.same("25: also when the time is over", 4, x.choirOf(2));
    }

    private static void awayUntilTheLastDay() {
        Register x = new Register();
        x.register(20, 150, 0, 48, 0);
        Checks.same("26: never lent", -1, x.awayUntil(0));
        x.lend(0, 3, 4);
        x.announce(4, 1);
        x.announce(5, 1);
        Checks.same("34: away on the last day", ChoirRegister.AWAY, x.whyNot(0, 0, 0));
        Checks.same("34: back on the day after", 0, x.whyNot(1, 0, 0));
        Checks.same("26: at once", 4, x.awayUntil(0));
        x.passDays(4);
        Checks.same("26: on the last day", 4, x.awayUntil(0));
        x.passDays(1);
        Checks.same("26: back", -1, x.awayUntil(0));
    }

    private static void excusedDays() {
        Register x = new Register();
        x.register(20, 150, 0, 48, 0);
        x.register(20, 150, 0, 48, 0);
        x.excuse(0, 5, 7);
        x.excuse(0, 9990, 10010);
        boolean[] want = {false, true, true, true, false};
        for (int i = 0; i < want.length; i++) {
            Checks.same("27: on day " + (i + 4), want[i], x.isExcused(0, i + 4));
        }
        Checks.same("27: another singer", false, x.isExcused(1, 6));
        Checks.same("27: day 0", false, x.isExcused(0, 0));
        Checks.same("27: day 9999", true, x.isExcused(0, 9999));
        x.passDays(30);
        Checks.same("27: a day that is over", true, x.isExcused(0, 6));
        x.leave(0);
        Checks.same("27: of one who has left", true, x.isExcused(0, 6));
        Checks.refuses(x, OUT_OF_RANGE, "27: day -1", () -> x.isExcused(0, -1) ? 1 : 0);
        Checks.refuses(x, OUT_OF_RANGE, "27: day 10000", () -> x.isExcused(0, 10000) ? 1 : 0);
        Checks.refuses(x, NO_SUCH, "27: singer 2, day -1", () -> x.isExcused(2, -1) ? 1 : 0);
    }

    private static void feastsAndDescantsAreCounted() {
        Register x = new Register();
        x.register(20, 150, 10, 30, 0);
        x.register(21, 150, 10, 30, 0);
        x.register(22, 150, 0, 5, 0);
        for (int feast = 0; feast < 3; feast++) {
            x.announce(feast + 1, 1);
            x.setLine(feast, 0, 2, 15, 20);
        }
        Checks.same("28: none sung", 0, x.feastsOf(0));
        x.passDays(2);
        Checks.same("28: two sung", 2, x.feastsOf(0));
        Checks.same("28: two sung by the other", 2, x.feastsOf(1));
        Checks.same("28: none by the low one", 0, x.feastsOf(2));
        Checks.same("29: one descant", 1, x.descantsOf(0));
        Checks.same("29: one descant of the older one", 1, x.descantsOf(1));
        Checks.same("29: none of the low one", 0, x.descantsOf(2));
        x.passDays(1);
        Checks.same("29: the older one again", 2, x.descantsOf(1));
        x.undo();
        Checks.same("28: undone", 2, x.feastsOf(0));
        Checks.same("29: undone", 1, x.descantsOf(1));
    }

    private static void unknownSingersAreRefused() {
        Register x = new Register();
        x.register(20, 150, 10, 30, 0);
        for (int singer : new int[] {-1, 1, 29, 30, Integer.MIN_VALUE, Integer.MAX_VALUE}) {
            Checks.refuses(x, NO_SUCH, "19: isInChoir", () -> x.isInChoir(singer) ? 1 : 0);
            Checks.refuses(x, NO_SUCH, "20: ageOf", () -> x.ageOf(singer));
            Checks.refuses(x, NO_SUCH, "21: lowestNoteOf", () -> x.lowestNoteOf(singer));
            Checks.refuses(x, NO_SUCH, "22: highestNoteOf", () -> x.highestNoteOf(singer));
            Checks.refuses(x, NO_SUCH, "23: breakDayOf", () -> x.breakDayOf(singer));
            Checks.refuses(x, NO_SUCH, "25: choirOf", () -> x.choirOf(singer));
            Checks.refuses(x, NO_SUCH, "26: awayUntil", () -> x.awayUntil(singer));
            Checks.refuses(x, NO_SUCH, "27: isExcused", () -> x.isExcused(singer, 5) ? 1 : 0);
            Checks.refuses(x, NO_SUCH, "28: feastsOf", () -> x.feastsOf(singer));
            Checks.refuses(x, NO_SUCH, "29: descantsOf", () -> x.descantsOf(singer));
        }
    }
}
