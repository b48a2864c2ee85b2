import java.util.ArrayList;
import java.util.List;

/** Runs of calls drawn by lot, each answered by ChoirRegister as by PlainChoir; all promises but 12 are in them. */
final class ModelTests {
    private static final int RUNS = 1000;
    // An object is used for so many calls; a letter is written and carried out with at most 84 of them.
    private static final int CALLS = 512;
    private static final int CALLS_OF_LETTER = 84;
    private static final int ACTIONS = 12;
    private static final int ACTIONS_BUT_LETTERS = 10;
    private static final int QUESTIONS = 35;

    private final Lot lot;
    private final int run;
    // How many days feasts lie apart, and how wide the ranges are, differs from run to run.
    private final int daysAhead;
    private final int range;
    private final boolean hasLetters;
    private int calls = 0;
    private final ChoirRegister x = new ChoirRegister();
    private PlainChoir plain = new PlainChoir();
    private PlainChoir snapshot = null;
    private final List<PlainChoir> recorded = new ArrayList<>();
    private String letter = "";

    private ModelTests(int run) {
        this.run = run;
        lot = new Lot(run * 7919L + 17);
        daysAhead = run % 3 == 0 ? 15 : run % 3 == 1 ? 80 : 400;
        range = run % 2 == 0 ? 48 : 24;
        hasLetters = run % 5 < 2;
    }

    static void run() {
        for (int run = 0; run < RUNS; run++) {
            new ModelTests(run).calls();
        }
    }

    private void calls() {
        while (calls < CALLS) {
            boolean mayWrite = hasLetters && calls + CALLS_OF_LETTER <= CALLS;
            if (lot.below(5) < 2) {
                act(lot.below(mayWrite ? ACTIONS : ACTIONS_BUT_LETTERS));
            } else {
                ask(lot.below(QUESTIONS));
            }
        }
    }

    // ---- the two are asked the same

    private static String answer(Checks.Call call) {
        try {
            return Long.toString(call.run());
        } catch (IndexOutOfBoundsException e) {
            return e.getClass() == IndexOutOfBoundsException.class ? "no such" : e.getClass().getName();
        } catch (IllegalArgumentException e) {
            return e.getClass() == IllegalArgumentException.class ? "out of range" : e.getClass().getName();
        } catch (IllegalStateException e) {
            return e.getClass() == IllegalStateException.class ? "not now" : e.getClass().getName();
        } catch (RuntimeException e) {
            return e.getClass().getName();
        }
    }

    private void same(String what, Checks.Call plainCall, Checks.Call call) {
        calls++;
        String want = answer(plainCall);
        String got = answer(call);
        Checks.that("run " + run + ": " + what + " answered " + got + ", due is " + want, want.equals(got));
    }

    /** An action on a copy, so that a refused one leaves the plain choir as it was. */
    private interface Action {
        long on(PlainChoir choir);
    }

    private void sameAction(String what, Action action, Checks.Call call) {
        PlainChoir before = plain;
        PlainChoir after = plain.copy();
        same(what, () -> {
            long answer = action.on(after);
            plain = after;
            record(before);
            return answer;
        }, call);
    }

    private void record(PlainChoir before) {
        recorded.add(before);
        if (recorded.size() > 4) {
            recorded.remove(0);
        }
    }

    // ---- arguments, now and then wrong ones

    private int near(int least, int greatest) {
        int kind = lot.below(40);
        if (kind == 0) {
            return least - 1;
        }
        if (kind == 1) {
            return greatest + 1;
        }
        if (kind == 4 && lot.below(4) == 0) {
            return lot.below(2) == 0 ? Integer.MIN_VALUE : Integer.MAX_VALUE;
        }
        return kind == 2 ? least : kind == 3 ? greatest : lot.within(least, greatest);
    }

    private int someSinger() {
        return near(0, Math.max(0, plain.singers.size() - 1));
    }

    private int someFeast() {
        return near(0, Math.max(0, plain.feasts.size() - 1));
    }

    private int someDay() {
        return plain.day + near(1, daysAhead);
    }

    // ---- actions

    private void act(int kind) {
        int low = near(0, range);
        int high = lot.below(20) == 0 ? near(0, 48) : Math.min(48, low + lot.below(range / 2 + 1));
        switch (kind) {
            case 0:
            case 1:
                register(near(7, lot.below(2) == 0 ? 16 : 70), near(90, 210), low, high);
                break;
            case 2:
                borrow(near(0, 4), near(0, 9), near(90, 210), low, high, near(1, 90));
                break;
            case 3:
                if (lot.below(4) == 0) {
                    leave(someSinger());
                } else {
                    lend(someSinger(), near(0, 4), near(1, 90));
                }
                break;
            case 4:
                excuse(someSinger(), someDay());
                break;
            case 5:
                announce(someDay(), near(1, 3));
                break;
            case 6:
            case 7:
                int middle = near(0, range);
                setLine(someFeast(), near(0, 3), near(0, lot.below(2) == 0 ? 2 : 6), middle, middle + lot.below(4));
                break;
            case 8:
                passDays(lot.below(3) == 0 ? near(1, 99) : near(1, 9));
                break;
            case 9:
                stepBack(lot.below(6));
                break;
            default:
                write(lot.below(3) == 0);
                break;
        }
    }

    private void register(int years, int height, int low, int high) {
        int breakAge = lot.below(3) == 0 ? 0 : near(12, 17);
        sameAction("register " + years + " " + height + " " + low + " " + high + " " + breakAge,
            p -> p.register(years, height, low, high, breakAge), () -> x.register(years, height, low, high, breakAge));
    }

    private void borrow(int choir, int fee, int height, int low, int high, int days) {
        sameAction("borrow " + choir + " " + fee + " " + height + " " + low + " " + high + " " + days,
            p -> p.borrow(choir, fee, height, low, high, days), () -> x.borrow(choir, fee, height, low, high, days));
    }

    private void leave(int singer) {
        sameAction("leave " + singer, p -> p.leave(singer), () -> x.leave(singer));
    }

    private void lend(int singer, int choir, int days) {
        sameAction("lend " + singer + " " + choir + " " + days,
            p -> p.lend(singer, choir, days), () -> x.lend(singer, choir, days));
    }

    private void excuse(int singer, int first) {
        int last = first + near(0, lot.below(2) == 0 ? 60 : 5);
        sameAction("excuse " + singer + " " + first + " " + last,
            p -> p.excuse(singer, first, last), () -> x.excuse(singer, first, last));
    }

    private void announce(int day, int rank) {
        sameAction("announce " + day + " " + rank, p -> p.announce(day, rank), () -> x.announce(day, rank));
    }

    private void setLine(int feast, int line, int places, int low, int high) {
        sameAction("setLine " + feast + " " + line + " " + places + " " + low + " " + high,
            p -> p.setLine(feast, line, places, low, high), () -> x.setLine(feast, line, places, low, high));
    }

    private void passDays(int days) {
        sameAction("passDays " + days, p -> p.passDays(days), () -> x.passDays(days));
    }

    private void stepBack(int kind) {
        if (kind < 2) {
            same("takeSnapshot", () -> {
                snapshot = plain.copy();
                return plain.day;
            }, () -> x.takeSnapshot());
        } else if (kind == 2) {
            same("restoreSnapshot", this::plainRestore, () -> x.restoreSnapshot());
        } else {
            same("undo", this::plainUndo, () -> x.undo());
        }
    }

    private long plainRestore() {
        if (snapshot == null) {
            throw new IllegalStateException();
        }
        record(plain);
        plain = snapshot.copy();
        return plain.day;
    }

    private long plainUndo() {
        if (recorded.isEmpty()) {
            throw new IllegalStateException();
        }
        plain = recorded.remove(recorded.size() - 1);
        return recorded.size();
    }

    // ---- letters: of valid orders only; LetterTests has the others

    private void write(boolean carryOut) {
        int length = letter.length();
        same("clearLetter", () -> length, () -> x.clearLetter());
        List<int[]> orders = new ArrayList<>();
        StringBuilder text = new StringBuilder();
        for (int more = lot.within(1, 4); more > 0; more--) {
            int[] order = someOrder();
            String written = write(order);
            if (text.length() + written.length() + 1 <= 80) {
                text.append(text.length() == 0 ? "" : ";").append(written);
                orders.add(order);
            }
        }
        letter = text.toString();
        for (int i = 0; i < letter.length(); i++) {
            char sign = letter.charAt(i);
            int typed = i + 1;
            same("type " + sign, () -> typed, () -> x.type(sign));
        }
        same("letterError of " + letter, () -> -1, () -> x.letterError());
        same("impossibleOrder of " + letter, () -> firstImpossible(plain.copy(), orders), () -> x.impossibleOrder());
        if (carryOut) {
            sameAction("carryOut of " + letter, p -> {
                if (firstImpossible(p, orders) >= 0) {
                    throw new IllegalStateException();
                }
                return orders.size();
            }, () -> x.carryOut());
        }
    }

    private int[] someOrder() {
        int low = lot.within(0, range);
        int high = lot.below(12) == 0 ? lot.within(0, 48) : Math.min(48, low + lot.below(range / 2 + 1));
        int singer = lot.within(0, Math.min(29, plain.singers.size()));
        int day = Math.min(9999, plain.day + lot.within(1, daysAhead));
        switch (lot.below(7)) {
            case 0:
                int breakAge = lot.below(3) == 0 ? 0 : lot.within(12, 17);
                return new int[] {'j', lot.within(7, 20), lot.within(90, 210), low, high, breakAge};
            case 1:
                return new int[] {'f', day, lot.within(1, 3)};
            case 2:
                int feast = lot.within(0, Math.min(19, plain.feasts.size()));
                return new int[] {'l', feast, lot.below(4), lot.below(7), low, high};
            case 3:
                return new int[] {'n', singer, day, Math.min(9999, day + lot.within(0, 62))};
            case 4:
                return new int[] {'o', singer, lot.below(5), lot.within(1, 90)};
            case 5:
                return new int[] {'x', singer};
            default:
                return new int[] {'t', lot.within(1, lot.below(3) == 0 ? 99 : 9)};
        }
    }

    private static String write(int[] n) {
        switch (n[0]) {
            case 'j':
                return "j" + n[1] + "h" + n[2] + "r" + n[3] + "-" + n[4] + (n[5] == 0 ? "" : "b" + n[5]);
            case 'f':
                return "f" + n[1] + "*" + n[2];
            case 'l':
                return "l" + n[1] + "." + n[2] + "=" + n[3] + "r" + n[4] + "-" + n[5];
            case 'n':
                return "n" + n[1] + ":" + n[2] + "-" + n[3];
            case 'o':
                return "o" + n[1] + ">" + n[2] + "+" + n[3];
            default:
                return (char) n[0] + "" + n[1];
        }
    }

    private static int firstImpossible(PlainChoir choir, List<int[]> orders) {
        for (int i = 0; i < orders.size(); i++) {
            int[] n = orders.get(i);
            String answer = answer(() -> obey(choir, n));
            if (!Character.isDigit(answer.charAt(0))) {
                return i;
            }
        }
        return -1;
    }

    private static int obey(PlainChoir choir, int[] n) {
        switch (n[0]) {
            case 'j':
                return choir.register(n[1], n[2], n[3], n[4], n[5]);
            case 'f':
                return choir.announce(n[1], n[2]);
            case 'l':
                return choir.setLine(n[1], n[2], n[3], n[4], n[5]);
            case 'n':
                return choir.excuse(n[1], n[2], n[3]);
            case 'o':
                return choir.lend(n[1], n[2], n[3]);
            case 'x':
                return choir.leave(n[1]);
            default:
                return choir.passDays(n[1]);
        }
    }

    // ---- questions

    private void ask(int kind) {
        if (kind < 11) {
            askSinger(kind, someSinger());
        } else if (kind < 23) {
            askFeast(kind, someFeast(), someSinger(), near(0, 3));
        } else {
            askRegister(kind, near(0, 4));
        }
    }

    private void askSinger(int kind, int s) {
        switch (kind) {
            case 0:
                same("isInChoir " + s, () -> plain.singer(s).hasLeft ? 0 : 1, () -> x.isInChoir(s) ? 1 : 0);
                break;
            case 1:
                same("ageOf " + s, () -> (plain.day - plain.singer(s).bornOn) / 360, () -> x.ageOf(s));
                break;
            case 2:
                same("lowestNoteOf " + s, () -> plain.singer(s).low(plain.day), () -> x.lowestNoteOf(s));
                break;
            case 3:
                same("highestNoteOf " + s, () -> plain.singer(s).high(plain.day), () -> x.highestNoteOf(s));
                break;
            case 4:
                same("breakDayOf " + s, () -> plain.singer(s).breaksOn, () -> x.breakDayOf(s));
                break;
            case 5:
                same("choirOf " + s, () -> plain.singer(s).choir, () -> x.choirOf(s));
                break;
            case 6:
                same("awayUntil " + s, () -> plain.awayUntil(s), () -> x.awayUntil(s));
                break;
            case 7:
                same("feastsOf " + s, () -> plain.singer(s).feasts, () -> x.feastsOf(s));
                break;
            case 8:
                same("descantsOf " + s, () -> plain.singer(s).descants, () -> x.descantsOf(s));
                break;
            default:
                int day = lot.below(30) == 0 ? near(0, 9999) : someDay() - lot.below(daysAhead);
                same("isExcused " + s + " " + day, () -> plain.isExcused(s, day) ? 1 : 0,
                    () -> x.isExcused(s, day) ? 1 : 0);
                break;
        }
    }

    private void askFeast(int kind, int f, int s, int line) {
        String what = " of " + f + ", " + s + ", " + line;
        switch (kind) {
            case 11:
                same("dayOf" + what, () -> plain.feast(f).day, () -> x.dayOf(f));
                break;
            case 12:
                same("isHeld" + what, () -> plain.feast(f).held ? 1 : 0, () -> x.isHeld(f) ? 1 : 0);
                break;
            case 13:
                same("placesIn" + what, () -> plain.placesIn(f, line), () -> x.placesIn(f, line));
                break;
            case 14:
                same("whyNot" + what, () -> plain.whyNot(f, s, line), () -> x.whyNot(f, s, line));
                break;
            case 15:
                same("lineOf" + what, () -> plain.lineOf(f, s), () -> x.lineOf(f, s));
                break;
            case 16:
                same("singersIn" + what, () -> plain.singersIn(f, line), () -> x.singersIn(f, line));
                break;
            case 17:
                same("shortfall" + what, () -> plain.shortfall(f), () -> x.shortfall(f));
                break;
            case 18:
                same("shortfallBySets" + what, () -> plain.shortfallBySets(f), () -> x.shortfallBySets(f));
                break;
            case 19:
                same("neededLine" + what, () -> plain.neededLine(f), () -> x.neededLine(f));
                break;
            case 20:
                same("descantIn" + what, () -> plain.descantIn(f), () -> x.descantIn(f));
                break;
            case 21:
                same("pewOf" + what, () -> plain.pewOf(f, s), () -> x.pewOf(f, s));
                break;
            default:
                same("seatOf" + what, () -> plain.seatOf(f, s), () -> x.seatOf(f, s));
                break;
        }
    }

    private void askRegister(int kind, int choir) {
        switch (kind) {
            case 23:
                same("nextToBreak", () -> plain.nextToBreak(), () -> x.nextToBreak());
                break;
            case 24:
                same("firstShortFeast", () -> plain.firstShortFeast(), () -> x.firstShortFeast());
                break;
            case 25:
                int end = plain.favours.length;
                same("favoursOf " + choir, () -> {
                    if (choir < 0 || choir >= end) {
                        throw new IndexOutOfBoundsException();
                    }
                    return plain.favours[choir];
                }, () -> x.favoursOf(choir));
                break;
            case 26:
                same("purse", () -> plain.purse, () -> x.purse());
                break;
            case 27:
                same("collected", () -> plain.collected, () -> x.collected());
                break;
            case 28:
                same("fees", () -> plain.fees, () -> x.fees());
                break;
            case 29:
                same("fines", () -> plain.fines, () -> x.fines());
                break;
            case 30:
                same("day", () -> plain.day, () -> x.day());
                break;
            case 31:
                same("recordedStates", () -> recorded.size(), () -> x.recordedStates());
                break;
            case 32:
                same("purseByAccounts", () -> plain.purse, () -> x.purseByAccounts());
                break;
            case 33:
                same("singers", () -> plain.singers.size(), () -> x.singers());
                break;
            default:
                same("feasts", () -> plain.feasts.size(), () -> x.feasts());
                break;
        }
    }
}
