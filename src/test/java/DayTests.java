/**
 * What begins and ends on a day: the day before the first, the first, one between, the last, and the day after it; and
 * the first and the last day of all.
 */
final class DayTests {
    private static final Class<IndexOutOfBoundsException> NO_SUCH = IndexOutOfBoundsException.class;
    private static final Class<IllegalArgumentException> OUT_OF_RANGE = IllegalArgumentException.class;
    private static final Class<IllegalStateException> NOT_NOW = IllegalStateException.class;

    private DayTests() {
    }

    static void run() {
        theLastDayOfAll();
        whatReachesBeyondTheLastDay();
        birthdays();
        breakingIsTold(0);
        breakingIsTold(7);
        breakingHinders(0);
        breakingHinders(7);
        breakingSilencesLineups();
        voicesBreakOneByOne();
        noBreakWithoutNeed();
        nextToBreakIsLaterThanToday();
        borrowedFor(1);
        borrowedFor(5);
        borrowedFor(90);
        borrowedSingerSings();
        lentFor(1);
        lentFor(5);
        lentFor(90);
        lentSingerSings();
        lentOnceMoreBeforeItEnds();
        excusedFor(0);
        excusedFor(5);
        excusedFor(60);
        excusedSingerSings();
        notesTouchButDoNotOverlap();
        feastIsHeldOnItsDay();
        feastsOfTheDaysThatPass();
        feastOnTheLastDayOfAll();
        onlyFeastsToComeAreShort();
    }

    private static void to(Register x, int day) {
        Calls.pass(x, day - x.day());
    }

    // ---- all days

    private static void theLastDayOfAll() {
        Register x = new Register();
        Checks.same("50: the first day", 0, x.day());
        x.register(20, 150, 10, 30, 0);
        to(x, 9900);
        Checks.same("9: to the last day at once", 0, x.passDays(99));
        Checks.same("50: the last day", 9999, x.day());
        Checks.refuses(x, NOT_NOW, "9: one more", () -> x.passDays(1));
        Checks.refuses(x, NOT_NOW, "9: 99 more", () -> x.passDays(99));
        x.undo();
        Checks.refuses(x, OUT_OF_RANGE, "9: 100 days", () -> x.passDays(100));
        x.passDays(98);
        Checks.same("50: the day before the last", 9998, x.day());
        Checks.refuses(x, NOT_NOW, "9: two more", () -> x.passDays(2));
        Checks.same("7: the last day is later", 0, x.announce(9999, 1));
        Checks.same("6: the last day is later", 1, x.excuse(0, 9999, 9999));
        Checks.same("9: the last feast", 1, x.passDays(1));
    }

    private static void whatReachesBeyondTheLastDay() {
        Register x = new Register();
        to(x, 9999);
        x.register(7, 150, 10, 30, 17);
        x.borrow(0, 1, 150, 10, 30, 90);
        x.register(16, 150, 10, 30, 17);
        Checks.same("23: ten years later", 13599, x.breakDayOf(0));
        Checks.same("23: a year later", 10359, x.breakDayOf(2));
        Checks.same("24: later than today", 2, x.nextToBreak());
        Checks.same("5: away up to", 10089, x.lend(0, 1, 90));
        Checks.same("26: away up to", 10089, x.awayUntil(0));
        Checks.same("19: borrowed", true, x.isInChoir(1));
        Checks.same("45: paid at once", 230, x.purse());
    }

    // ---- ages

    private static void birthdays() {
        Register x = new Register();
        x.passDays(5);
        x.register(7, 150, 10, 30, 0);
        x.register(70, 150, 10, 30, 0);
        x.borrow(0, 1, 150, 10, 30, 1);
        int[] day = {5, 364, 365, 724, 725};
        int[] years = {0, 0, 1, 1, 2};
        for (int i = 0; i < day.length; i++) {
            to(x, day[i]);
            Checks.same("20: the young one on day " + day[i], 7 + years[i], x.ageOf(0));
            Checks.same("20: the old one on day " + day[i], 70 + years[i], x.ageOf(1));
            Checks.same("20: the borrowed one on day " + day[i], 30 + years[i], x.ageOf(2));
        }
    }

    // ---- voices

    /** Registers a singer of 11 years on a day, whose voice breaks at 12; answers the day on which it begins. */
    private static int breakingFrom(Register x, int day) {
        to(x, day);
        x.register(11, 150, 20, 40, 12);
        return day + 360;
    }

    private static void breakingIsTold(int registered) {
        Register x = new Register();
        int first = breakingFrom(x, registered);
        int[] day = {registered, first - 1, first, first + 45, first + 89, first + 90, first + 91};
        int[] lowest = {20, 20, 20, 20, 20, 8, 8};
        for (int i = 0; i < day.length; i++) {
            to(x, day[i]);
            Checks.same("21: on day " + day[i], lowest[i], x.lowestNoteOf(0));
            Checks.same("22: on day " + day[i], lowest[i] + 20, x.highestNoteOf(0));
            Checks.same("23: on day " + day[i], first, x.breakDayOf(0));
            Checks.same("24: on day " + day[i], day[i] < first ? 0 : -1, x.nextToBreak());
        }
    }

    private static void breakingHinders(int registered) {
        Register x = new Register();
        int first = breakingFrom(x, registered);
        int[] day = {first - 1, first, first + 45, first + 89, first + 90};
        int breaking = ChoirRegister.BREAKING;
        int[] high = {0, breaking, breaking, breaking, ChoirRegister.TOO_HIGH};
        int[] low = {ChoirRegister.TOO_LOW, breaking, breaking, breaking, 0};
        for (int i = 0; i < day.length; i++) {
            x.announce(day[i], 1);
            x.setLine(i, 0, 1, 20, 40);
            x.setLine(i, 1, 1, 8, 28);
        }
        for (int i = 0; i < day.length; i++) {
            Checks.same("34: long before day " + day[i], high[i], x.whyNot(i, 0, 0));
            Checks.same("34: long before day " + day[i], low[i], x.whyNot(i, 0, 1));
        }
        for (int i = 0; i < day.length; i++) {
            to(x, day[i] - 1);
            Checks.same("34: just before day " + day[i], high[i], x.whyNot(i, 0, 0));
            Checks.same("34: just before day " + day[i], low[i], x.whyNot(i, 0, 1));
        }
    }

    private static void breakingSilencesLineups() {
        Register x = new Register();
        int first = breakingFrom(x, 3);
        int[] day = {first - 1, first, first + 45, first + 89, first + 90};
        int[] line = {0, -1, -1, -1, 1};
        for (int i = 0; i < day.length; i++) {
            x.announce(day[i], 1);
            x.setLine(i, 0, 1, 20, 40);
            x.setLine(i, 1, 1, 8, 28);
            Checks.same("35: to come on day " + day[i], line[i], x.lineOf(i, 0));
        }
        to(x, first + 90);
        for (int i = 0; i < day.length; i++) {
            Checks.same("35: held on day " + day[i], line[i], x.lineOf(i, 0));
        }
        Checks.same("28: before and after", 2, x.feastsOf(0));
    }

    /** Four singers of the same range, of whom three break, at four feasts that are not announced in their order. */
    private static void voicesBreakOneByOne() {
        Register x = new Register();
        int[] breakAge = {13, 0, 12, 17};
        for (int age : breakAge) {
            x.register(11, 150, 20, 30, age);
        }
        int[] day = {500, 100, 900, 2300};
        for (int feast = 0; feast < day.length; feast++) {
            x.announce(day[feast], 1);
            x.setLine(feast, 0, 6, 20, 30);
            x.setLine(feast, 1, 6, 8, 18);
        }
        int low = ChoirRegister.TOO_LOW;
        int high = ChoirRegister.TOO_HIGH;
        int[][] whyNotHigh = {{0, 0, high, 0}, {0, 0, 0, 0}, {high, 0, high, 0}, {high, 0, high, high}};
        int[][] whyNotLow = {{low, low, 0, low}, {low, low, low, low}, {0, low, 0, low}, {0, low, 0, 0}};
        for (int feast = 0; feast < day.length; feast++) {
            for (int singer = 0; singer < breakAge.length; singer++) {
                String what = " of singer " + singer + " on day " + day[feast];
                Checks.same("34: old range" + what, whyNotHigh[feast][singer], x.whyNot(feast, singer, 0));
                Checks.same("34: new range" + what, whyNotLow[feast][singer], x.whyNot(feast, singer, 1));
                Checks.same("35: line" + what, whyNotHigh[feast][singer] == 0 ? 0 : 1, x.lineOf(feast, singer));
            }
        }
    }

    private static void noBreakWithoutNeed() {
        for (int breakAge = 12; breakAge <= 17; breakAge++) {
            Register x = new Register();
            x.register(breakAge - 1, 150, 20, 40, breakAge);
            x.register(breakAge, 150, 20, 40, breakAge);
            x.register(breakAge + 1, 150, 20, 40, breakAge);
            x.register(breakAge - 1, 150, 20, 40, 0);
            x.register(7, 150, 20, 40, breakAge);
            Checks.same("23: a year too young for " + breakAge, 360, x.breakDayOf(0));
            Checks.same("23: just " + breakAge, -1, x.breakDayOf(1));
            Checks.same("23: older than " + breakAge, -1, x.breakDayOf(2));
            Checks.same("23: no break age", -1, x.breakDayOf(3));
            Checks.same("23: seven, up to " + breakAge, 360 * (breakAge - 7), x.breakDayOf(4));
            to(x, 450);
            Checks.same("21: broken at " + breakAge, 8, x.lowestNoteOf(0));
            Checks.same("21: not broken at " + breakAge, 20, x.lowestNoteOf(1));
            Checks.same("22: not broken, older than " + breakAge, 40, x.highestNoteOf(2));
            Checks.same("22: not broken, no break age", 40, x.highestNoteOf(3));
        }
    }

    private static void nextToBreakIsLaterThanToday() {
        Register x = new Register();
        x.passDays(1);
        x.register(11, 150, 10, 30, 12);
        x.passDays(1);
        x.register(11, 150, 10, 30, 12);
        x.register(11, 150, 10, 30, 12);
        int[] day = {2, 360, 361, 362};
        int[] next = {0, 0, 1, -1};
        for (int i = 0; i < day.length; i++) {
            to(x, day[i]);
            Checks.same("24: on day " + day[i], next[i], x.nextToBreak());
        }
        x.undo();
        x.leave(1);
        Checks.same("24: the first one has left", 2, x.nextToBreak());
    }

    // ---- borrowed singers

    private static void borrowedFor(int days) {
        Register x = new Register();
        x.passDays(10);
        x.register(20, 150, 10, 30, 0);
        x.borrow(0, 1, 150, 10, 30, days);
        Checks.same("19: on the day of borrowing", true, x.isInChoir(1));
        to(x, 10 + (days + 1) / 2);
        Checks.same("19: between", true, x.isInChoir(1));
        to(x, 10 + days);
        Checks.same("19: on the last of " + days + " days", true, x.isInChoir(1));
        Checks.same("3: may leave on the last of " + days + " days", 1, x.leave(1));
        x.undo();
        Checks.same("6: may send a note on the last of " + days + " days", 1, x.excuse(1, 200, 200));
        x.passDays(1);
        Checks.same("19: on the day after " + days + " days", false, x.isInChoir(1));
        Checks.refuses(x, NOT_NOW, "3: on the day after", () -> x.leave(1));
        Checks.refuses(x, NOT_NOW, "6: on the day after", () -> x.excuse(1, 300, 300));
        Checks.same("3: the other one is the last", 0, x.leave(0));
        Checks.same("25: still told", 0, x.choirOf(1));
        Checks.same("20: still told", 30, x.ageOf(1));
    }

    private static void borrowedSingerSings() {
        Register x = new Register();
        x.passDays(10);
        x.borrow(0, 3, 150, 10, 30, 5);
        int[] day = {11, 13, 15, 16, 50};
        int left = ChoirRegister.HAS_LEFT;
        int[] why = {0, 0, 0, left, left};
        for (int i = 0; i < day.length; i++) {
            x.announce(day[i], 1);
            x.setLine(i, 0, 1, 10, 30);
            Checks.same("34: on day " + day[i], why[i], x.whyNot(i, 0, 0));
            Checks.same("35: on day " + day[i], why[i] == 0 ? 0 : -1, x.lineOf(i, 0));
        }
        Checks.same("43: the first without the borrowed one", 3, x.firstShortFeast());
        Checks.same("9: all are held", 5, x.passDays(60));
        Checks.same("48: for three feasts", 9, x.fees());
        Checks.same("49: for two feasts", 2, x.fines());
        Checks.same("28: three feasts", 3, x.feastsOf(0));
    }

    // ---- lent singers

    private static void lentFor(int days) {
        Register x = new Register();
        x.passDays(10);
        x.register(20, 150, 10, 30, 0);
        int last = 10 + days;
        Checks.same("5: for " + days + " days", last, x.lend(0, 0, days));
        Checks.same("26: on the day of lending", last, x.awayUntil(0));
        Checks.refuses(x, NOT_NOW, "5: on the day of lending", () -> x.lend(0, 1, 1));
        to(x, 10 + (days + 1) / 2);
        Checks.same("26: between", last, x.awayUntil(0));
        to(x, last);
        Checks.same("26: on the last of " + days + " days", last, x.awayUntil(0));
        Checks.same("19: away, but in the choir", true, x.isInChoir(0));
        Checks.refuses(x, NOT_NOW, "5: on the last day", () -> x.lend(0, 1, 1));
        x.passDays(1);
        Checks.same("26: on the day after " + days + " days", -1, x.awayUntil(0));
        Checks.same("5: on the day after", last + 2, x.lend(0, 1, 1));
    }

    private static void lentSingerSings() {
        Register x = new Register();
        x.passDays(10);
        x.register(20, 150, 10, 30, 0);
        x.lend(0, 0, 5);
        int[] day = {11, 13, 15, 16, 50};
        int away = ChoirRegister.AWAY;
        int[] why = {away, away, away, 0, 0};
        for (int i = 0; i < day.length; i++) {
            x.announce(day[i], 1);
            x.setLine(i, 0, 1, 10, 30);
            Checks.same("34: on day " + day[i], why[i], x.whyNot(i, 0, 0));
        }
        x.passDays(60);
        for (int i = 0; i < day.length; i++) {
            Checks.same("35: held on day " + day[i], why[i] == 0 ? 0 : -1, x.lineOf(i, 0));
        }
        Checks.same("28: two feasts", 2, x.feastsOf(0));
    }

    private static void lentOnceMoreBeforeItEnds() {
        Register x = new Register();
        x.register(20, 150, 10, 30, 0);
        x.announce(3, 1);
        x.announce(4, 1);
        x.lend(0, 0, 1);
        x.passDays(2);
        Checks.same("34: back in time", ChoirRegister.TOO_LOW, x.whyNot(0, 0, 3));
        x.lend(0, 0, 1);
        Checks.same("34: away again", ChoirRegister.AWAY, x.whyNot(0, 0, 3));
        Checks.same("34: and back again", ChoirRegister.TOO_LOW, x.whyNot(1, 0, 3));
        x.excuse(0, 5, 9);
        x.passDays(3);
        Checks.same("5: an excused one can be lent", 6, x.lend(0, 0, 1));
    }

    // ---- notes of absence

    private static void excusedFor(int more) {
        Register x = new Register();
        x.passDays(10);
        x.register(20, 150, 10, 30, 0);
        x.excuse(0, 20, 20 + more);
        int[] day = {0, 10, 19, 20, 20 + more / 2, 20 + more, 21 + more};
        boolean[] want = {false, false, false, true, true, true, false};
        for (int today = 10; today <= 100; today += 45) {
            to(x, today);
            for (int i = 0; i < day.length; i++) {
                Checks.same("27: day " + day[i] + " of " + more + " more", want[i], x.isExcused(0, day[i]));
            }
        }
    }

    private static void excusedSingerSings() {
        Register x = new Register();
        x.register(20, 150, 10, 30, 0);
        x.register(20, 150, 10, 30, 0);
        x.excuse(0, 20, 24);
        int[] day = {19, 20, 22, 24, 25};
        int excused = ChoirRegister.EXCUSED;
        int[] why = {0, excused, excused, excused, 0};
        for (int i = 0; i < day.length; i++) {
            x.announce(day[i], 1);
            x.setLine(i, 0, 1, 10, 30);
            Checks.same("34: on day " + day[i], why[i], x.whyNot(i, 0, 0));
            Checks.same("34: the other one on day " + day[i], 0, x.whyNot(i, 1, 0));
            Checks.same("35: the other one on day " + day[i], why[i] == 0 ? -1 : 0, x.lineOf(i, 1));
        }
        x.passDays(30);
        Checks.same("28: the excused one", 2, x.feastsOf(0));
        Checks.same("28: the other one", 3, x.feastsOf(1));
    }

    private static void notesTouchButDoNotOverlap() {
        Register x = new Register();
        x.register(20, 150, 10, 30, 0);
        x.register(20, 150, 10, 30, 0);
        x.excuse(0, 20, 24);
        int[][] overlap = {{20, 24}, {19, 20}, {24, 25}, {19, 25}, {22, 22}, {20, 20}, {24, 24}, {1, 61}};
        for (int[] days : overlap) {
            Checks.refuses(x, NOT_NOW, "6: from " + days[0] + " to " + days[1], () -> x.excuse(0, days[0], days[1]));
        }
        Checks.same("6: up to the day before", 2, x.excuse(0, 1, 19));
        Checks.same("6: from the day after", 3, x.excuse(0, 25, 85));
        Checks.same("6: the same days of another singer", 1, x.excuse(1, 20, 24));
        Checks.refuses(x, NOT_NOW, "6: between notes that touch", () -> x.excuse(0, 24, 25));
        x.excuse(0, 9999, 9999);
        Checks.refuses(x, NOT_NOW, "6: the last day", () -> x.excuse(0, 9990, 10005));
        Checks.same("6: up to the day before the last", 5, x.excuse(0, 9990, 9998));
    }

    // ---- feasts

    private static void feastIsHeldOnItsDay() {
        Register x = new Register();
        x.register(20, 150, 10, 30, 0);
        x.announce(5, 1);
        Checks.same("32: announced", false, x.isHeld(0));
        x.passDays(4);
        Checks.same("32: on the day before", false, x.isHeld(0));
        Checks.same("8: on the day before", 2, x.setLine(0, 0, 2, 10, 30));
        Checks.same("34: on the day before", 0, x.whyNot(0, 0, 0));
        Checks.same("38: on the day before", 1, x.shortfallBySets(0));
        Checks.same("39: on the day before", 0, x.neededLine(0));
        Checks.same("43: on the day before", 0, x.firstShortFeast());
        for (int day = 5; day <= 6; day++) {
            x.passDays(1);
            Checks.same("32: on day " + day, true, x.isHeld(0));
            Checks.refuses(x, NOT_NOW, "8: on day " + day, () -> x.setLine(0, 0, 1, 10, 30));
            Checks.refuses(x, NOT_NOW, "34: on day " + day, () -> x.whyNot(0, 0, 0));
            Checks.refuses(x, NOT_NOW, "38: on day " + day, () -> x.shortfallBySets(0));
            Checks.refuses(x, NOT_NOW, "39: on day " + day, () -> x.neededLine(0));
            Checks.refuses(x, NO_SUCH, "32: on day " + day, () -> x.isHeld(1) ? 1 : 0);
            Checks.same("43: on day " + day, -1, x.firstShortFeast());
            Checks.same("37: on day " + day, 1, x.shortfall(0));
            Checks.same("31: on day " + day, 5, x.dayOf(0));
            Checks.same("28: on day " + day, 1, x.feastsOf(0));
        }
    }

    private static void feastsOfTheDaysThatPass() {
        Register x = new Register();
        x.passDays(10);
        int[] day = {11, 12, 15, 20, 21};
        for (int onDay : day) {
            x.announce(onDay, 1);
        }
        Checks.same("9: the first, those between and the last", 4, x.passDays(10));
        for (int i = 0; i < day.length; i++) {
            Checks.same("32: on day " + day[i], i < 4, x.isHeld(i));
        }
        x.undo();
        Checks.same("9: up to the day before the last", 3, x.passDays(9));
        Checks.same("9: the last alone", 1, x.passDays(1));
        Checks.same("9: the day after", 1, x.passDays(1));
        Checks.same("9: none is left", 0, x.passDays(1));
    }

    private static void feastOnTheLastDayOfAll() {
        Register x = new Register();
        x.register(20, 150, 10, 30, 0);
        x.announce(9999, 3);
        x.announce(1, 1);
        x.setLine(0, 0, 2, 10, 30);
        x.setLine(1, 0, 1, 10, 30);
        Checks.same("43: the last day", 0, x.firstShortFeast());
        Checks.same("9: the first day", 1, x.passDays(1));
        to(x, 9998);
        Checks.same("32: on the day before", false, x.isHeld(0));
        Checks.same("9: the last day", 1, x.passDays(1));
        Checks.same("32: on the last day", true, x.isHeld(0));
        Checks.same("45: 1, then 3 and as much of fine", 51, x.purse());
    }

    private static void onlyFeastsToComeAreShort() {
        Register x = new Register();
        int[] day = {9, 3, 6};
        for (int i = 0; i < day.length; i++) {
            x.announce(day[i], 1);
            x.setLine(i, 3, 1, 10, 30);
        }
        int[] first = {1, 1, 1, 2, 2, 2, 0, 0, 0, -1, -1};
        for (int today = 0; today < first.length; today++) {
            Checks.same("43: on day " + today, first[today], x.firstShortFeast());
            x.passDays(1);
        }
    }
}
