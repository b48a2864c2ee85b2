/**
 * Every exception of every call that throws: each alone, and where several apply at once, the one that the document
 * lists first; afterwards nothing has changed and nothing is recorded.
 */
final class OrderTests {
    private static final Class<IndexOutOfBoundsException> NO_SUCH = IndexOutOfBoundsException.class;
    private static final Class<IllegalArgumentException> OUT_OF_RANGE = IllegalArgumentException.class;
    private static final Class<IllegalStateException> NOT_NOW = IllegalStateException.class;

    private OrderTests() {
    }

    static void run() {
        register();
        leave();
        borrowFromAChoirThatLendsNoMore();
        borrowIntoAFullRegister();
        lend();
        lendOfOneWhoIsNotThere();
        excuse();
        excuseWithSixtyNotes();
        announce();
        announceInAFullCalendar();
        setLine();
        passDays();
        letters();
        undoAndSnapshot();
        isExcused();
        whyNot();
        questionsAboutLines();
        setsAndNeededLineOfAHeldFeast();
    }

    private static void fill(Register x) {
        while (x.singers() < 30) {
            x.register(20, 150, 10, 30, 0);
        }
    }

    private static void register() {
        Twins.Script full = OrderTests::fill;
        Twins.refuse(OUT_OF_RANGE, "2: out of range", Twins.EMPTY, x -> x.register(6, 150, 10, 20, 0));
        Twins.refuse(NOT_NOW, "2: full", full, x -> x.register(20, 150, 10, 20, 0));
        Twins.refuse(OUT_OF_RANGE, "2: full, years", full, x -> x.register(6, 150, 10, 20, 0));
        Twins.refuse(OUT_OF_RANGE, "2: full, height", full, x -> x.register(20, 211, 10, 20, 0));
        Twins.refuse(OUT_OF_RANGE, "2: full, lowest", full, x -> x.register(20, 150, -1, 20, 0));
        Twins.refuse(OUT_OF_RANGE, "2: full, highest", full, x -> x.register(20, 150, 10, 49, 0));
        Twins.refuse(OUT_OF_RANGE, "2: full, lowest above highest", full, x -> x.register(20, 150, 10, 9, 0));
        Twins.refuse(OUT_OF_RANGE, "2: full, break age", full, x -> x.register(20, 150, 10, 20, 11));
    }

    private static void leave() {
        Twins.Script left = x -> {
            x.register(20, 150, 10, 30, 0);
            x.register(20, 150, 10, 30, 0);
            x.leave(0);
        };
        Twins.refuse(NO_SUCH, "3: no such singer", left, x -> x.leave(2));
        Twins.refuse(NOT_NOW, "3: has left", left, x -> x.leave(0));
        Twins.refuse(NOT_NOW, "3: has left, on a later day", x -> {
            left.on(x);
            x.passDays(1);
        }, x -> x.leave(0));
        Twins.refuse(NOT_NOW, "3: the time is over", x -> {
            x.borrow(0, 1, 150, 10, 20, 1);
            x.passDays(2);
        }, x -> x.leave(0));
    }

    private static void borrowFromAChoirThatLendsNoMore() {
        Twins.Script owing = x -> {
            x.borrow(4, 1, 150, 10, 20, 5);
            x.borrow(4, 1, 150, 10, 20, 5);
            x.borrow(4, 1, 150, 10, 20, 5);
        };
        Twins.refuse(NO_SUCH, "4: no such choir", owing, x -> x.borrow(5, 1, 150, 10, 20, 5));
        Twins.refuse(NO_SUCH, "4: no such choir, fee", owing, x -> x.borrow(5, 10, 150, 10, 20, 5));
        Twins.refuse(NO_SUCH, "4: no such choir, days", owing, x -> x.borrow(-1, 1, 150, 10, 20, 0));
        Twins.refuse(NOT_NOW, "4: favours -3", owing, x -> x.borrow(4, 1, 150, 10, 20, 5));
        Twins.refuse(OUT_OF_RANGE, "4: favours -3, fee", owing, x -> x.borrow(4, 10, 150, 10, 20, 5));
        Twins.refuse(OUT_OF_RANGE, "4: favours -3, height", owing, x -> x.borrow(4, 1, 89, 10, 20, 5));
        Twins.refuse(OUT_OF_RANGE, "4: favours -3, lowest", owing, x -> x.borrow(4, 1, 150, -1, 20, 5));
        Twins.refuse(OUT_OF_RANGE, "4: favours -3, highest", owing, x -> x.borrow(4, 1, 150, 10, 9, 5));
        Twins.refuse(OUT_OF_RANGE, "4: favours -3, days", owing, x -> x.borrow(4, 1, 150, 10, 20, 91));
        Twins.take("4: another choir", 3, owing, x -> x.borrow(3, 1, 150, 10, 20, 5));
    }

    private static void borrowIntoAFullRegister() {
        Twins.Script full = OrderTests::fill;
        Twins.refuse(NOT_NOW, "4: full", full, x -> x.borrow(0, 1, 150, 10, 20, 5));
        Twins.refuse(OUT_OF_RANGE, "4: full, days", full, x -> x.borrow(0, 1, 150, 10, 20, 0));
        Twins.refuse(OUT_OF_RANGE, "4: full, fee", full, x -> x.borrow(0, -1, 150, 10, 20, 5));
        Twins.refuse(NO_SUCH, "4: full, no such choir", full, x -> x.borrow(5, 1, 150, 10, 20, 5));
        Twins.refuse(NO_SUCH, "4: full, no such choir, fee", full, x -> x.borrow(5, -1, 150, 10, 20, 5));
        Twins.refuse(NOT_NOW, "4: full and favours -3", x -> {
            x.borrow(0, 1, 150, 10, 20, 5);
            x.borrow(0, 1, 150, 10, 20, 5);
            x.borrow(0, 1, 150, 10, 20, 5);
            fill(x);
        }, x -> x.borrow(0, 1, 150, 10, 20, 5));
    }

    /** Singer 0 is there, 1 has left, 2 is borrowed, 3 is away up to day 5, 4 left while away. */
    private static void fiveSingers(Register x) {
        x.register(20, 150, 10, 30, 0);
        x.register(20, 150, 10, 30, 0);
        x.borrow(0, 1, 150, 10, 20, 90);
        x.register(20, 150, 10, 30, 0);
        x.register(20, 150, 10, 30, 0);
        x.leave(1);
        x.lend(3, 2, 5);
        x.lend(4, 2, 5);
        x.leave(4);
    }

    private static void lend() {
        Twins.Script five = OrderTests::fiveSingers;
        Twins.refuse(NO_SUCH, "5: no such singer", five, x -> x.lend(5, 0, 5));
        Twins.refuse(NO_SUCH, "5: no such choir", five, x -> x.lend(0, 5, 5));
        Twins.refuse(NO_SUCH, "5: neither", five, x -> x.lend(-1, -1, 5));
        Twins.refuse(NO_SUCH, "5: no such singer, days", five, x -> x.lend(5, 0, 0));
        Twins.refuse(NO_SUCH, "5: no such choir, days", five, x -> x.lend(0, 5, 91));
        Twins.refuse(OUT_OF_RANGE, "5: days", five, x -> x.lend(0, 0, 0));
        Twins.take("5: one who is there", 5, five, x -> x.lend(0, 0, 5));
    }

    private static void lendOfOneWhoIsNotThere() {
        String[] what = {"there", "has left", "borrowed", "away", "has left while away"};
        for (int i = 1; i < what.length; i++) {
            int singer = i;
            Twins.Script five = OrderTests::fiveSingers;
            Twins.refuse(NOT_NOW, "5: " + what[i], five, x -> x.lend(singer, 0, 5));
            Twins.refuse(OUT_OF_RANGE, "5: " + what[i] + ", days", five, x -> x.lend(singer, 0, 91));
            Twins.refuse(NO_SUCH, "5: " + what[i] + ", choir", five, x -> x.lend(singer, 5, 5));
            Twins.refuse(NO_SUCH, "5: " + what[i] + ", choir, days", five, x -> x.lend(singer, -1, 91));
        }
        Twins.refuse(NOT_NOW, "5: borrowed, and the time is over", x -> {
            x.borrow(0, 1, 150, 10, 20, 3);
            x.passDays(4);
        }, x -> x.lend(0, 0, 5));
    }

    private static void excuse() {
        Twins.Script two = x -> {
            x.register(20, 150, 10, 30, 0);
            x.register(20, 150, 10, 30, 0);
            x.excuse(0, 20, 30);
            x.leave(1);
        };
        Twins.refuse(NO_SUCH, "6: no such singer", two, x -> x.excuse(2, 40, 41));
        Twins.refuse(NO_SUCH, "6: no such singer, first", two, x -> x.excuse(2, 0, 41));
        Twins.refuse(NO_SUCH, "6: no such singer, last", two, x -> x.excuse(-1, 40, 39));
        Twins.refuse(OUT_OF_RANGE, "6: first", two, x -> x.excuse(0, 0, 5));
        Twins.refuse(OUT_OF_RANGE, "6: last", two, x -> x.excuse(0, 40, 101));
        Twins.refuse(NOT_NOW, "6: overlaps", two, x -> x.excuse(0, 30, 31));
        Twins.refuse(OUT_OF_RANGE, "6: overlaps, first", two, x -> x.excuse(0, 0, 20));
        Twins.refuse(OUT_OF_RANGE, "6: overlaps, last before first", two, x -> x.excuse(0, 25, 24));
        Twins.refuse(OUT_OF_RANGE, "6: overlaps, last too late", two, x -> x.excuse(0, 30, 91));
        Twins.refuse(NOT_NOW, "6: has left", two, x -> x.excuse(1, 40, 41));
        Twins.refuse(OUT_OF_RANGE, "6: has left, first", two, x -> x.excuse(1, 10000, 10001));
        Twins.refuse(OUT_OF_RANGE, "6: has left, last", two, x -> x.excuse(1, 40, 39));
        Twins.refuse(NOT_NOW, "6: borrowed, and the time is over", x -> {
            x.borrow(0, 1, 150, 10, 20, 3);
            x.passDays(4);
        }, x -> x.excuse(0, 40, 41));
    }

    private static void excuseWithSixtyNotes() {
        Twins.Script sixty = x -> {
            x.register(20, 150, 10, 30, 0);
            x.register(20, 150, 10, 30, 0);
            for (int day = 1; day <= 60; day++) {
                x.excuse(0, day, day);
            }
            x.leave(0);
        };
        Twins.refuse(NOT_NOW, "6: sixty notes", sixty, x -> x.excuse(1, 100, 100));
        Twins.refuse(NOT_NOW, "6: sixty notes, has left", sixty, x -> x.excuse(0, 100, 100));
        Twins.refuse(OUT_OF_RANGE, "6: sixty notes, first", sixty, x -> x.excuse(1, 0, 0));
        Twins.refuse(OUT_OF_RANGE, "6: sixty notes, last", sixty, x -> x.excuse(1, 100, 161));
        Twins.refuse(NO_SUCH, "6: sixty notes, no such singer", sixty, x -> x.excuse(2, 100, 100));
    }

    private static void announce() {
        Twins.Script one = x -> x.announce(12, 1);
        Twins.refuse(OUT_OF_RANGE, "7: day", one, x -> x.announce(0, 1));
        Twins.refuse(OUT_OF_RANGE, "7: rank", one, x -> x.announce(13, 4));
        Twins.refuse(NOT_NOW, "7: a feast on this day", one, x -> x.announce(12, 3));
        Twins.refuse(OUT_OF_RANGE, "7: a feast on this day, rank", one, x -> x.announce(12, 0));
        Twins.Script held = x -> {
            x.announce(12, 1);
            x.passDays(12);
        };
        Twins.refuse(OUT_OF_RANGE, "7: a feast on this day, but it is today", held, x -> x.announce(12, 1));
    }

    private static void announceInAFullCalendar() {
        Twins.Script full = x -> {
            for (int day = 1; day <= 20; day++) {
                x.announce(day, 1);
            }
        };
        Twins.refuse(NOT_NOW, "7: twenty", full, x -> x.announce(21, 1));
        Twins.refuse(NOT_NOW, "7: twenty, a feast on this day", full, x -> x.announce(20, 1));
        Twins.refuse(OUT_OF_RANGE, "7: twenty, day", full, x -> x.announce(10000, 1));
        Twins.refuse(OUT_OF_RANGE, "7: twenty, rank", full, x -> x.announce(21, 4));
        Twins.refuse(OUT_OF_RANGE, "7: twenty, a feast on this day, rank", full, x -> x.announce(20, 4));
    }

    private static void setLine() {
        Twins.Script held = x -> {
            x.announce(5, 1);
            x.announce(6, 1);
            x.setLine(0, 0, 1, 10, 20);
            x.passDays(5);
        };
        Twins.refuse(NO_SUCH, "8: no such feast", held, x -> x.setLine(2, 0, 1, 10, 20));
        Twins.refuse(NO_SUCH, "8: no such feast, places", held, x -> x.setLine(2, 0, 7, 10, 20));
        Twins.refuse(NO_SUCH, "8: no such line", held, x -> x.setLine(1, 4, 1, 10, 20));
        Twins.refuse(NO_SUCH, "8: no such line, range", held, x -> x.setLine(1, 4, 1, 20, 10));
        Twins.refuse(NO_SUCH, "8: no such line, held", held, x -> x.setLine(0, 4, 1, 10, 20));
        Twins.refuse(NO_SUCH, "8: no such line, held, places", held, x -> x.setLine(0, -1, 7, 10, 20));
        Twins.refuse(OUT_OF_RANGE, "8: places", held, x -> x.setLine(1, 0, 7, 10, 20));
        Twins.refuse(OUT_OF_RANGE, "8: places, held", held, x -> x.setLine(0, 0, -1, 10, 20));
        Twins.refuse(OUT_OF_RANGE, "8: lowest, held", held, x -> x.setLine(0, 0, 1, -1, 20));
        Twins.refuse(OUT_OF_RANGE, "8: highest, held", held, x -> x.setLine(0, 0, 1, 10, 49));
        Twins.refuse(OUT_OF_RANGE, "8: lowest above highest, held", held, x -> x.setLine(0, 0, 1, 10, 9));
        Twins.refuse(NOT_NOW, "8: held", held, x -> x.setLine(0, 0, 1, 10, 20));
    }

    private static void passDays() {
        Twins.Script late = x -> Calls.pass(x, 9950);
        Twins.refuse(OUT_OF_RANGE, "9: days", Twins.EMPTY, x -> x.passDays(0));
        Twins.refuse(NOT_NOW, "9: day 10000", late, x -> x.passDays(50));
        Twins.refuse(NOT_NOW, "9: day 10049", late, x -> x.passDays(99));
        Twins.refuse(OUT_OF_RANGE, "9: day 10050, days", late, x -> x.passDays(100));
        Twins.refuse(OUT_OF_RANGE, "9: the sum runs over", late, x -> x.passDays(Integer.MAX_VALUE));
    }

    private static void letters() {
        Twins.refuse(NOT_NOW, "10: eighty signs", x -> Calls.write(x, "t1;".repeat(26) + "t1"), x -> x.type('2'));
        Twins.refuse(NOT_NOW, "10: eighty signs, a wrong one", x -> Calls.write(x, "?".repeat(80)), x -> x.type('t'));
        String[] wrong = {"", "t", "t1;", "t1,", "t0", "x0;x30"};
        for (String letter : wrong) {
            Twins.refuse(NOT_NOW, "13: not valid: " + letter, x -> Calls.write(x, letter), x -> x.impossibleOrder());
            Twins.refuse(NOT_NOW, "14: not valid: " + letter, x -> Calls.write(x, letter), x -> x.carryOut());
        }
        String[] impossible = {"x0", "t1;x0", "j20h150r10-20;t1;x0;x0", "f3*1;t9;f5*1;l0.0=1r0-0", "j9h90r9-8"};
        for (String letter : impossible) {
            Twins.refuse(NOT_NOW, "14: impossible: " + letter, x -> Calls.write(x, letter), x -> x.carryOut());
        }
        Twins.Script full = x -> {
            fill(x);
            Calls.write(x, "x0;j20h150r10-20");
        };
        Twins.refuse(NOT_NOW, "14: four states are recorded", full, x -> x.carryOut());
        Twins.take("13: four states are recorded", 1, full, x -> x.impossibleOrder());
    }

    private static void undoAndSnapshot() {
        Twins.refuseBare(NOT_NOW, "15: a new object", Twins.EMPTY, x -> x.undo());
        Twins.refuse(NOT_NOW, "15: a snapshot is no recorded state", Twins.EMPTY, x -> x.undo());
        Twins.refuse(NOT_NOW, "15: all are undone", x -> {
            x.passDays(1);
            x.passDays(1);
            x.undo();
            x.undo();
        }, x -> x.undo());
        Twins.refuseBare(NOT_NOW, "17: a new object", Twins.EMPTY, x -> x.restoreSnapshot());
        Twins.refuseBare(NOT_NOW, "17: recorded states are no snapshot", x -> {
            for (int i = 0; i < 5; i++) {
                x.passDays(1);
            }
        }, x -> x.restoreSnapshot());
    }

    private static void isExcused() {
        Twins.Script one = x -> {
            x.register(20, 150, 10, 30, 0);
            x.excuse(0, 5, 6);
            x.leave(0);
        };
        Twins.refuse(NO_SUCH, "27: no such singer", one, x -> x.isExcused(1, 5) ? 1 : 0);
        Twins.refuse(NO_SUCH, "27: no such singer, day", one, x -> x.isExcused(1, 10000) ? 1 : 0);
        Twins.refuse(NO_SUCH, "27: singer -1, day -1", one, x -> x.isExcused(-1, -1) ? 1 : 0);
        Twins.refuse(OUT_OF_RANGE, "27: day", one, x -> x.isExcused(0, 10000) ? 1 : 0);
        Twins.take("27: one who has left", 1, one, x -> x.isExcused(0, 5) ? 1 : 0);
    }

    private static void whyNot() {
        Twins.Script held = x -> {
            x.register(20, 150, 10, 30, 0);
            x.announce(5, 1);
            x.announce(6, 1);
            x.passDays(5);
        };
        Twins.refuse(NO_SUCH, "34: no such feast", held, x -> x.whyNot(2, 0, 0));
        Twins.refuse(NO_SUCH, "34: no such singer", held, x -> x.whyNot(1, 1, 0));
        Twins.refuse(NO_SUCH, "34: no such line", held, x -> x.whyNot(1, 0, 4));
        Twins.refuse(NO_SUCH, "34: no such singer, held", held, x -> x.whyNot(0, 1, 0));
        Twins.refuse(NO_SUCH, "34: no such line, held", held, x -> x.whyNot(0, 0, -1));
        Twins.refuse(NOT_NOW, "34: held", held, x -> x.whyNot(0, 0, 0));
        Twins.take("34: to come", ChoirRegister.TOO_LOW, held, x -> x.whyNot(1, 0, 0));
    }

    private static void questionsAboutLines() {
        Twins.Script one = x -> x.announce(5, 1);
        Twins.refuse(NO_SUCH, "33: no such feast", one, x -> x.placesIn(1, 0));
        Twins.refuse(NO_SUCH, "33: no such line", one, x -> x.placesIn(0, 4));
        Twins.refuse(NO_SUCH, "33: neither", one, x -> x.placesIn(-1, -1));
        Twins.refuse(NO_SUCH, "36: no such feast", one, x -> x.singersIn(1, 0));
        Twins.refuse(NO_SUCH, "36: no such line", one, x -> x.singersIn(0, 4));
        Twins.refuse(NO_SUCH, "36: neither", one, x -> x.singersIn(-1, -1));
        Twins.refuse(NO_SUCH, "35: neither feast nor singer", one, x -> x.lineOf(1, 0));
        Twins.refuse(NO_SUCH, "41: neither feast nor singer", one, x -> x.pewOf(1, 0));
        Twins.refuse(NO_SUCH, "42: neither feast nor singer", one, x -> x.seatOf(1, 0));
    }

    private static void setsAndNeededLineOfAHeldFeast() {
        Twins.Script held = x -> {
            x.announce(5, 1);
            x.announce(6, 1);
            x.setLine(0, 3, 1, 0, 0);
            x.setLine(1, 3, 2, 0, 0);
            x.passDays(5);
        };
        Twins.refuse(NO_SUCH, "38: no such feast", held, x -> x.shortfallBySets(2));
        Twins.refuse(NOT_NOW, "38: held", held, x -> x.shortfallBySets(0));
        Twins.take("38: to come", 2, held, x -> x.shortfallBySets(1));
        Twins.refuse(NO_SUCH, "39: no such feast", held, x -> x.neededLine(2));
        Twins.refuse(NOT_NOW, "39: held", held, x -> x.neededLine(0));
        Twins.take("39: to come", 3, held, x -> x.neededLine(1));
    }
}
