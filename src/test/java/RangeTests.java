import java.util.function.IntUnaryOperator;

/**
 * Each argument of each call: the last value that is taken and the first that is refused on each side of its range,
 * and the least and the greatest int.
 */
final class RangeTests {
    private static final Class<IndexOutOfBoundsException> NO_SUCH = IndexOutOfBoundsException.class;
    private static final Class<IllegalArgumentException> OUT_OF_RANGE = IllegalArgumentException.class;

    private interface CallWith {
        long on(Register x, int value);
    }

    private RangeTests() {
    }

    static void run() {
        register();
        registerRanges();
        leave();
        borrow();
        borrowRanges();
        lend();
        excuse();
        announce();
        setLine();
        setLineRanges();
        passDays();
        type();
        questionsAboutSingers();
        questionsWithoutSingers();
        questionsAboutTheThirtiethSinger();
        isExcused();
        questionsAboutFeasts();
        questionsWithoutFeasts();
        questionsAboutTheTwentiethFeast();
        questionsAboutSingersAtFeasts();
        questionsAboutLines();
        favoursOf();
    }

    private static void range(Class<? extends RuntimeException> refusal, String what, int least, int greatest,
            Twins.Script script, IntUnaryOperator due, CallWith call) {
        for (int value : new int[] {least, greatest}) {
            Twins.take(what + " " + value, due.applyAsInt(value), script, x -> call.on(x, value));
        }
        refuse(refusal, what, script, call, least - 1, greatest + 1, Integer.MIN_VALUE, Integer.MAX_VALUE);
    }

    private static void refuse(Class<? extends RuntimeException> refusal, String what, Twins.Script script,
            CallWith call, int... values) {
        for (int value : values) {
            Twins.refuse(refusal, what + " " + value, script, x -> call.on(x, value));
        }
    }

    /** Three singers, and three feasts that two of them sing in line 0. */
    private static void threeOfEach(Register x) {
        for (int i = 0; i < 3; i++) {
            x.register(20, 150, 10, 30, 0);
            x.announce(20 + 10 * i, 1);
            x.setLine(i, 0, 2, 10, 20);
        }
    }

    private static Twins.Script onDay(int day) {
        return x -> {
            x.register(20, 150, 10, 30, 0);
            Calls.pass(x, day);
        };
    }

    // ---- actions

    private static void register() {
        range(OUT_OF_RANGE, "2: years", 7, 70, Twins.EMPTY, v -> v,
            (x, v) -> x.ageOf(x.register(v, 150, 10, 20, 0)));
        range(OUT_OF_RANGE, "2: height", 90, 210, Twins.EMPTY, v -> 0,
            (x, v) -> x.register(20, v, 10, 20, 0));
        range(OUT_OF_RANGE, "2: break age", 12, 17, Twins.EMPTY, v -> (v - 7) * 360,
            (x, v) -> x.breakDayOf(x.register(7, 150, 10, 20, v)));
        Twins.take("2: break age 0", -1, Twins.EMPTY, x -> x.breakDayOf(x.register(7, 150, 10, 20, 0)));
        refuse(OUT_OF_RANGE, "2: break age", Twins.EMPTY, (x, v) -> x.register(7, 150, 10, 20, v), -1, 1, 7);
    }

    private static void registerRanges() {
        range(OUT_OF_RANGE, "2: lowest note, below 48", 0, 48, Twins.EMPTY, v -> v,
            (x, v) -> x.lowestNoteOf(x.register(20, 150, v, 48, 0)));
        range(OUT_OF_RANGE, "2: lowest note, below 20", 0, 20, Twins.EMPTY, v -> v,
            (x, v) -> x.lowestNoteOf(x.register(20, 150, v, 20, 0)));
        range(OUT_OF_RANGE, "2: highest note, above 0", 0, 48, Twins.EMPTY, v -> v,
            (x, v) -> x.highestNoteOf(x.register(20, 150, 0, v, 0)));
        range(OUT_OF_RANGE, "2: highest note, above 20", 20, 48, Twins.EMPTY, v -> v,
            (x, v) -> x.highestNoteOf(x.register(20, 150, 20, v, 0)));
        refuse(OUT_OF_RANGE, "2: both notes", Twins.EMPTY, (x, v) -> x.register(20, 150, v, v, 0), -1, 49);
    }

    private static void leave() {
        range(NO_SUCH, "3: singer", 0, 2, RangeTests::threeOfEach, v -> 2, (x, v) -> x.leave(v));
        refuse(NO_SUCH, "3: no singers", Twins.EMPTY, (x, v) -> x.leave(v), 0);
    }

    private static void borrow() {
        range(NO_SUCH, "4: choir", 0, 4, Twins.EMPTY, v -> -1, (x, v) -> {
            x.borrow(v, 1, 150, 10, 20, 5);
            return x.favoursOf(v);
        });
        Twins.Script feast = x -> {
            x.announce(5, 1);
            x.setLine(0, 0, 1, 10, 20);
        };
        range(OUT_OF_RANGE, "4: fee", 0, 9, feast, v -> v, (x, v) -> {
            x.borrow(0, v, 150, 10, 20, 5);
            x.passDays(5);
            return x.fees();
        });
        range(OUT_OF_RANGE, "4: height", 90, 210, Twins.EMPTY, v -> 0,
            (x, v) -> x.borrow(0, 1, v, 10, 20, 5));
        range(OUT_OF_RANGE, "4: days", 1, 90, Twins.EMPTY, v -> v, (x, v) -> {
            int singer = x.borrow(0, 1, 150, 10, 20, v);
            x.passDays(v);
            return x.isInChoir(singer) ? v : -1;
        });
    }

    private static void borrowRanges() {
        range(OUT_OF_RANGE, "4: lowest note, below 48", 0, 48, Twins.EMPTY, v -> v,
            (x, v) -> x.lowestNoteOf(x.borrow(0, 1, 150, v, 48, 5)));
        range(OUT_OF_RANGE, "4: lowest note, below 20", 0, 20, Twins.EMPTY, v -> v,
            (x, v) -> x.lowestNoteOf(x.borrow(0, 1, 150, v, 20, 5)));
        range(OUT_OF_RANGE, "4: highest note, above 0", 0, 48, Twins.EMPTY, v -> v,
            (x, v) -> x.highestNoteOf(x.borrow(0, 1, 150, 0, v, 5)));
        range(OUT_OF_RANGE, "4: highest note, above 20", 20, 48, Twins.EMPTY, v -> v,
            (x, v) -> x.highestNoteOf(x.borrow(0, 1, 150, 20, v, 5)));
        refuse(OUT_OF_RANGE, "4: both notes", Twins.EMPTY, (x, v) -> x.borrow(0, 1, 150, v, v, 5), -1, 49);
    }

    private static void lend() {
        range(NO_SUCH, "5: singer", 0, 2, RangeTests::threeOfEach, v -> 5, (x, v) -> x.lend(v, 0, 5));
        refuse(NO_SUCH, "5: no singers", Twins.EMPTY, (x, v) -> x.lend(v, 0, 5), 0);
        range(NO_SUCH, "5: choir", 0, 4, RangeTests::threeOfEach, v -> 1, (x, v) -> {
            x.lend(0, v, 5);
            return x.favoursOf(v);
        });
        range(OUT_OF_RANGE, "5: days", 1, 90, RangeTests::threeOfEach, v -> v, (x, v) -> x.lend(0, 0, v));
        range(OUT_OF_RANGE, "5: days, paid", 1, 90, RangeTests::threeOfEach, v -> 50 + 2 * v, (x, v) -> {
            x.lend(0, 0, v);
            return x.purse();
        });
    }

    private static void excuse() {
        range(NO_SUCH, "6: singer", 0, 2, RangeTests::threeOfEach, v -> 1, (x, v) -> x.excuse(v, 5, 6));
        refuse(NO_SUCH, "6: no singers", Twins.EMPTY, (x, v) -> x.excuse(v, 5, 6), 0);
        for (int day : new int[] {0, 10, 9998}) {
            range(OUT_OF_RANGE, "6: first day, on day " + day, day + 1, 9999, onDay(day), v -> 1,
                (x, v) -> x.excuse(0, v, v));
        }
        refuse(OUT_OF_RANGE, "6: first day, on day 9999", onDay(9999), (x, v) -> x.excuse(0, v, v), 9999, 10000);
        for (int first : new int[] {1, 50, 9999}) {
            range(OUT_OF_RANGE, "6: last day, from " + first, first, first + 60, onDay(0), v -> 1,
                (x, v) -> x.excuse(0, first, v));
        }
    }

    private static void announce() {
        for (int day : new int[] {0, 10, 9998}) {
            range(OUT_OF_RANGE, "7: day, on day " + day, day + 1, 9999, onDay(day), v -> v,
                (x, v) -> x.dayOf(x.announce(v, 1)));
        }
        refuse(OUT_OF_RANGE, "7: day, on day 9999", onDay(9999), (x, v) -> x.announce(v, 1), 9999, 10000);
        range(OUT_OF_RANGE, "7: rank", 1, 3, onDay(0), v -> v, (x, v) -> {
            x.setLine(x.announce(1, v), 0, 1, 10, 20);
            x.passDays(1);
            return x.collected();
        });
    }

    private static void setLine() {
        range(NO_SUCH, "8: feast", 0, 2, RangeTests::threeOfEach, v -> 7, (x, v) -> x.setLine(v, 1, 5, 10, 20));
        refuse(NO_SUCH, "8: no feasts", Twins.EMPTY, (x, v) -> x.setLine(v, 0, 1, 10, 20), 0);
        range(NO_SUCH, "8: line", 0, 3, RangeTests::threeOfEach, v -> 5, (x, v) -> {
            x.setLine(0, v, 5, 10, 20);
            return x.placesIn(0, v);
        });
        range(OUT_OF_RANGE, "8: places", 0, 6, RangeTests::threeOfEach, v -> v, (x, v) -> {
            x.setLine(0, 2, v, 10, 20);
            return x.placesIn(0, 2);
        });
    }

    private static void setLineRanges() {
        range(OUT_OF_RANGE, "8: lowest note, below 48", 0, 48, RangeTests::threeOfEach, v -> 3,
            (x, v) -> x.setLine(0, 1, 1, v, 48));
        range(OUT_OF_RANGE, "8: lowest note, below 20", 0, 20, RangeTests::threeOfEach, v -> 3,
            (x, v) -> x.setLine(0, 1, 1, v, 20));
        range(OUT_OF_RANGE, "8: highest note, above 0", 0, 48, RangeTests::threeOfEach, v -> 3,
            (x, v) -> x.setLine(0, 1, 1, 0, v));
        range(OUT_OF_RANGE, "8: highest note, above 20", 20, 48, RangeTests::threeOfEach, v -> 3,
            (x, v) -> x.setLine(0, 1, 1, 20, v));
        refuse(OUT_OF_RANGE, "8: both notes", RangeTests::threeOfEach, (x, v) -> x.setLine(0, 1, 1, v, v), -1, 49);
    }

    private static void passDays() {
        range(OUT_OF_RANGE, "9: days", 1, 99, Twins.EMPTY, v -> v, (x, v) -> {
            x.passDays(v);
            return x.day();
        });
        // The sum of the day and the greatest int runs over.
        refuse(OUT_OF_RANGE, "9: days, on day 9999", onDay(9999), (x, v) -> x.passDays(v),
            0, 100, Integer.MAX_VALUE, Integer.MIN_VALUE);
    }

    private static void type() {
        for (int sign : new int[] {0, 1, 127, 128, 255, 256, 65535}) {
            Twins.take("10: sign " + sign, 1, Twins.EMPTY, x -> x.type((char) sign));
            Twins.take("12: sign " + sign, 0, x -> x.type((char) sign), x -> x.letterError());
        }
    }

    // ---- questions

    private static void askEachSinger(int last, Twins.Script script) {
        range(NO_SUCH, "19: isInChoir", 0, last, script, v -> 1, (x, v) -> x.isInChoir(v) ? 1 : 0);
        range(NO_SUCH, "20: ageOf", 0, last, script, v -> 20, (x, v) -> x.ageOf(v));
        range(NO_SUCH, "21: lowestNoteOf", 0, last, script, v -> 10, (x, v) -> x.lowestNoteOf(v));
        range(NO_SUCH, "22: highestNoteOf", 0, last, script, v -> 30, (x, v) -> x.highestNoteOf(v));
        range(NO_SUCH, "23: breakDayOf", 0, last, script, v -> -1, (x, v) -> x.breakDayOf(v));
        range(NO_SUCH, "25: choirOf", 0, last, script, v -> -1, (x, v) -> x.choirOf(v));
        range(NO_SUCH, "26: awayUntil", 0, last, script, v -> -1, (x, v) -> x.awayUntil(v));
        range(NO_SUCH, "27: isExcused", 0, last, script, v -> 0, (x, v) -> x.isExcused(v, 5) ? 1 : 0);
        range(NO_SUCH, "28: feastsOf", 0, last, script, v -> 0, (x, v) -> x.feastsOf(v));
        range(NO_SUCH, "29: descantsOf", 0, last, script, v -> 0, (x, v) -> x.descantsOf(v));
    }

    private static void questionsAboutSingers() {
        askEachSinger(2, RangeTests::threeOfEach);
    }

    private static void questionsAboutTheThirtiethSinger() {
        askEachSinger(29, x -> {
            for (int i = 0; i < 30; i++) {
                x.register(20, 150, 10, 30, 0);
            }
        });
    }

    private static void questionsWithoutSingers() {
        Twins.Script script = x -> x.announce(20, 1);
        refuse(NO_SUCH, "19: nobody", script, (x, v) -> x.isInChoir(v) ? 1 : 0, 0);
        refuse(NO_SUCH, "20: nobody", script, (x, v) -> x.ageOf(v), 0);
        refuse(NO_SUCH, "21: nobody", script, (x, v) -> x.lowestNoteOf(v), 0);
        refuse(NO_SUCH, "22: nobody", script, (x, v) -> x.highestNoteOf(v), 0);
        refuse(NO_SUCH, "23: nobody", script, (x, v) -> x.breakDayOf(v), 0);
        refuse(NO_SUCH, "25: nobody", script, (x, v) -> x.choirOf(v), 0);
        refuse(NO_SUCH, "26: nobody", script, (x, v) -> x.awayUntil(v), 0);
        refuse(NO_SUCH, "27: nobody", script, (x, v) -> x.isExcused(v, 5) ? 1 : 0, 0);
        refuse(NO_SUCH, "28: nobody", script, (x, v) -> x.feastsOf(v), 0);
        refuse(NO_SUCH, "29: nobody", script, (x, v) -> x.descantsOf(v), 0);
        refuse(NO_SUCH, "34: nobody", script, (x, v) -> x.whyNot(0, v, 0), 0);
        refuse(NO_SUCH, "35: nobody", script, (x, v) -> x.lineOf(0, v), 0);
        refuse(NO_SUCH, "41: nobody", script, (x, v) -> x.pewOf(0, v), 0);
        refuse(NO_SUCH, "42: nobody", script, (x, v) -> x.seatOf(0, v), 0);
    }

    private static void isExcused() {
        Twins.Script everyEnd = x -> {
            x.register(20, 150, 10, 30, 0);
            x.excuse(0, 9999, 10059);
        };
        range(OUT_OF_RANGE, "27: day", 0, 9999, everyEnd, v -> v == 9999 ? 1 : 0, (x, v) -> x.isExcused(0, v) ? 1 : 0);
    }

    private static void questionsAboutFeasts() {
        Twins.Script script = RangeTests::threeOfEach;
        range(NO_SUCH, "31: dayOf", 0, 2, script, v -> 20 + 10 * v, (x, v) -> x.dayOf(v));
        range(NO_SUCH, "32: isHeld", 0, 2, script, v -> 0, (x, v) -> x.isHeld(v) ? 1 : 0);
        range(NO_SUCH, "33: placesIn", 0, 2, script, v -> 2, (x, v) -> x.placesIn(v, 0));
        range(NO_SUCH, "34: whyNot", 0, 2, script, v -> 0, (x, v) -> x.whyNot(v, 0, 0));
        range(NO_SUCH, "35: lineOf", 0, 2, script, v -> 0, (x, v) -> x.lineOf(v, 0));
        range(NO_SUCH, "36: singersIn", 0, 2, script, v -> 2, (x, v) -> x.singersIn(v, 0));
        range(NO_SUCH, "37: shortfall", 0, 2, script, v -> 0, (x, v) -> x.shortfall(v));
        range(NO_SUCH, "38: shortfallBySets", 0, 2, script, v -> 0, (x, v) -> x.shortfallBySets(v));
        range(NO_SUCH, "39: neededLine", 0, 2, script, v -> -1, (x, v) -> x.neededLine(v));
        range(NO_SUCH, "40: descantIn", 0, 2, script, v -> 0, (x, v) -> x.descantIn(v));
        range(NO_SUCH, "41: pewOf", 0, 2, script, v -> 0, (x, v) -> x.pewOf(v, 0));
        range(NO_SUCH, "42: seatOf", 0, 2, script, v -> 0, (x, v) -> x.seatOf(v, 0));
    }

    private static void questionsWithoutFeasts() {
        Twins.Script script = x -> x.register(20, 150, 10, 30, 0);
        refuse(NO_SUCH, "31: no feasts", script, (x, v) -> x.dayOf(v), 0);
        refuse(NO_SUCH, "32: no feasts", script, (x, v) -> x.isHeld(v) ? 1 : 0, 0);
        refuse(NO_SUCH, "33: no feasts", script, (x, v) -> x.placesIn(v, 0), 0);
        refuse(NO_SUCH, "34: no feasts", script, (x, v) -> x.whyNot(v, 0, 0), 0);
        refuse(NO_SUCH, "35: no feasts", script, (x, v) -> x.lineOf(v, 0), 0);
        refuse(NO_SUCH, "36: no feasts", script, (x, v) -> x.singersIn(v, 0), 0);
        refuse(NO_SUCH, "37: no feasts", script, (x, v) -> x.shortfall(v), 0);
        refuse(NO_SUCH, "38: no feasts", script, (x, v) -> x.shortfallBySets(v), 0);
        refuse(NO_SUCH, "39: no feasts", script, (x, v) -> x.neededLine(v), 0);
        refuse(NO_SUCH, "40: no feasts", script, (x, v) -> x.descantIn(v), 0);
        refuse(NO_SUCH, "41: no feasts", script, (x, v) -> x.pewOf(v, 0), 0);
        refuse(NO_SUCH, "42: no feasts", script, (x, v) -> x.seatOf(v, 0), 0);
    }

    private static void questionsAboutTheTwentiethFeast() {
        Twins.Script script = x -> {
            x.register(20, 150, 10, 30, 0);
            for (int feast = 0; feast < 20; feast++) {
                x.announce(feast + 1, 1);
                x.setLine(feast, 0, 2, 10, 20);
            }
        };
        range(NO_SUCH, "31: the twentieth", 0, 19, script, v -> v + 1, (x, v) -> x.dayOf(v));
        range(NO_SUCH, "32: the twentieth", 0, 19, script, v -> 0, (x, v) -> x.isHeld(v) ? 1 : 0);
        range(NO_SUCH, "33: the twentieth", 0, 19, script, v -> 2, (x, v) -> x.placesIn(v, 0));
        range(NO_SUCH, "34: the twentieth", 0, 19, script, v -> 0, (x, v) -> x.whyNot(v, 0, 0));
        range(NO_SUCH, "35: the twentieth", 0, 19, script, v -> 0, (x, v) -> x.lineOf(v, 0));
        range(NO_SUCH, "36: the twentieth", 0, 19, script, v -> 1, (x, v) -> x.singersIn(v, 0));
        range(NO_SUCH, "37: the twentieth", 0, 19, script, v -> 1, (x, v) -> x.shortfall(v));
        range(NO_SUCH, "38: the twentieth", 0, 19, script, v -> 1, (x, v) -> x.shortfallBySets(v));
        range(NO_SUCH, "39: the twentieth", 0, 19, script, v -> 0, (x, v) -> x.neededLine(v));
        range(NO_SUCH, "40: the twentieth", 0, 19, script, v -> 0, (x, v) -> x.descantIn(v));
        range(NO_SUCH, "41: the twentieth", 0, 19, script, v -> 0, (x, v) -> x.pewOf(v, 0));
        range(NO_SUCH, "42: the twentieth", 0, 19, script, v -> 0, (x, v) -> x.seatOf(v, 0));
        range(NO_SUCH, "8: the twentieth", 0, 19, script, v -> 5, (x, v) -> x.setLine(v, 3, 3, 10, 20));
    }

    private static void questionsAboutSingersAtFeasts() {
        Twins.Script script = RangeTests::threeOfEach;
        range(NO_SUCH, "34: singer", 0, 2, script, v -> 0, (x, v) -> x.whyNot(0, v, 0));
        range(NO_SUCH, "35: singer", 0, 2, script, v -> v == 0 ? 0 : -1, (x, v) -> x.lineOf(0, v));
        range(NO_SUCH, "41: singer", 0, 2, script, v -> v == 0 ? 0 : -1, (x, v) -> x.pewOf(0, v));
        range(NO_SUCH, "42: singer", 0, 2, script, v -> v == 0 ? 0 : -1, (x, v) -> x.seatOf(0, v));
        Twins.Script held = x -> {
            threeOfEach(x);
            x.passDays(20);
        };
        range(NO_SUCH, "35: singer, held", 0, 2, held, v -> v == 0 ? 0 : -1, (x, v) -> x.lineOf(0, v));
        range(NO_SUCH, "41: singer, held", 0, 2, held, v -> v == 0 ? 0 : -1, (x, v) -> x.pewOf(0, v));
        range(NO_SUCH, "42: singer, held", 0, 2, held, v -> v == 0 ? 0 : -1, (x, v) -> x.seatOf(0, v));
    }

    private static void questionsAboutLines() {
        Twins.Script script = RangeTests::threeOfEach;
        range(NO_SUCH, "33: line", 0, 3, script, v -> v == 0 ? 2 : 0, (x, v) -> x.placesIn(0, v));
        range(NO_SUCH, "34: line", 0, 3, script, v -> v == 0 ? 0 : ChoirRegister.TOO_LOW, (x, v) -> x.whyNot(0, 0, v));
        range(NO_SUCH, "36: line", 0, 3, script, v -> v == 0 ? 2 : 0, (x, v) -> x.singersIn(0, v));
        Twins.Script held = x -> {
            threeOfEach(x);
            x.passDays(20);
        };
        range(NO_SUCH, "33: line, held", 0, 3, held, v -> v == 0 ? 2 : 0, (x, v) -> x.placesIn(0, v));
        range(NO_SUCH, "36: line, held", 0, 3, held, v -> v == 0 ? 2 : 0, (x, v) -> x.singersIn(0, v));
    }

    private static void favoursOf() {
        range(NO_SUCH, "44: choir", 0, 4, x -> {
            x.borrow(0, 1, 150, 10, 20, 5);
            x.borrow(4, 1, 150, 10, 20, 5);
        }, v -> -1, (x, v) -> x.favoursOf(v));
    }
}
