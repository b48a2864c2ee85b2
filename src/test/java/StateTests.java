/** Promises 1, 15 to 17, 44 and 51: a new object, undo, snapshots, favours. */
final class StateTests {
    private static final Class<IllegalStateException> NOT_NOW = IllegalStateException.class;

    private StateTests() {
    }

    static void run() {
        aNewRegisterIsEmpty();
        registersAreApart();
        undoGoesBackFourStates();
        undoRefuses();
        everyActionIsRecorded();
        questionsAreNotRecorded();
        snapshotsAreKept();
        restoreRefuses();
        undoBringsNothingOldBack();
        favours();
    }

    private static void aNewRegisterIsEmpty() {
        Register x = new Register();
        Checks.same("1: singers", 0, x.singers());
        Checks.same("1: feasts", 0, x.feasts());
        Checks.same("1: day", 0, x.day());
        Checks.same("1: purse", 50, x.purse());
        Checks.same("1: purse by accounts", 50, x.purseByAccounts());
        Checks.same("1: collected", 0, x.collected());
        Checks.same("1: fees", 0, x.fees());
        Checks.same("1: fines", 0, x.fines());
        Checks.same("1: recorded", 0, x.recordedStates());
        Checks.same("1: letter", 0, x.clearLetter());
        Checks.same("1: next to break", -1, x.nextToBreak());
        Checks.same("1: short feast", -1, x.firstShortFeast());
        for (int choir = 0; choir < 5; choir++) {
            Checks.same("1: favours", 0, x.favoursOf(choir));
        }
        Checks.refuses(x, NOT_NOW, "1: nothing to undo", () -> x.undo());
        Checks.refuses(x, NOT_NOW, "1: no snapshot", () -> x.restoreSnapshot());
    }

    private static void registersAreApart() {
        Register x = new Register();
        Register y = new Register();
        x.register(20, 150, 10, 20, 0);
        x.type('t');
        x.takeSnapshot();
        x.passDays(4);
        Checks.same("1: another object has no singers", 0, y.singers());
        Checks.same("1: and no letter", 0, y.clearLetter());
        Checks.same("1: and day 0", 0, y.day());
        Checks.refuses(y, NOT_NOW, "1: and no snapshot", () -> y.restoreSnapshot());
    }

    private static void undoGoesBackFourStates() {
        Register x = new Register();
        String[] facts = new String[7];
        for (int i = 0; i < 7; i++) {
            facts[i] = Facts.ofState(x);
            x.register(20 + i, 150, 10, 20, 0);
            Checks.same("51: recorded", Math.min(i + 1, 4), x.recordedStates());
        }
        for (int i = 6; i >= 3; i--) {
            Checks.same("15: states that are left", i - 3, x.undo());
            Checks.that("15: the state before action " + i, facts[i].equals(Facts.ofState(x)));
            Checks.same("51: states that are left", i - 3, x.recordedStates());
        }
        Checks.refuses(x, NOT_NOW, "15: a fifth time", () -> x.undo());
        x.passDays(1);
        Checks.same("51: one again", 1, x.recordedStates());
        Checks.same("15: back to three singers", 0, x.undo());
        Checks.same("15: three singers", 3, x.singers());
        Checks.same("15: day 0", 0, x.day());
    }

    private static void undoRefuses() {
        Register x = new Register();
        Checks.refuses(x, NOT_NOW, "15: no state", () -> x.undo());
        x.passDays(5);
        x.undo();
        Checks.refuses(x, NOT_NOW, "15: no state left", () -> x.undo());
    }

    private static void everyActionIsRecorded() {
        Register x = new Register();
        Calls.write(x, "t1");
        x.takeSnapshot();
        Checks.Call[] actions = {
            () -> x.register(20, 150, 10, 20, 0), () -> x.borrow(0, 1, 150, 10, 20, 5), () -> x.lend(0, 1, 3),
            () -> x.excuse(0, 5, 6), () -> x.announce(9, 2), () -> x.setLine(0, 0, 2, 10, 20),
            () -> x.passDays(3), () -> x.carryOut(), () -> x.leave(0), () -> x.restoreSnapshot()};
        for (int i = 0; i < actions.length; i++) {
            String before = Facts.ofState(x);
            int recorded = x.recordedStates();
            actions[i].run();
            Checks.same("51: action " + i, Math.min(recorded + 1, 4), x.recordedStates());
            x.undo();
            Checks.that("15: action " + i + " is undone", before.equals(Facts.ofState(x)));
            actions[i].run();
        }
    }

    private static void questionsAreNotRecorded() {
        Register x = new Register();
        x.register(20, 150, 10, 20, 0);
        x.type('t');
        x.letterError();
        x.clearLetter();
        Calls.write(x, "t1");
        x.impossibleOrder();
        x.takeSnapshot();
        Checks.same("51: nothing more", 1, x.recordedStates());
    }

    private static void snapshotsAreKept() {
        Register x = new Register();
        x.register(20, 150, 10, 30, 0);
        x.announce(5, 2);
        x.setLine(0, 0, 2, 15, 20);
        x.passDays(3);
        Checks.same("16: the day", 3, x.takeSnapshot());
        Checks.same("16: no action", 4, x.recordedStates());
        String taken = Facts.ofState(x);
        x.passDays(7);
        x.leave(0);
        String after = Facts.ofState(x);
        Checks.same("17: the day", 3, x.restoreSnapshot());
        Checks.that("17: the state of the snapshot", taken.equals(Facts.ofState(x)));
        x.undo();
        Checks.that("17: undone", after.equals(Facts.ofState(x)));
        x.undo();
        x.undo();
        Checks.same("15: undo reaches behind the snapshot", 3, x.day());
        x.undo();
        Checks.same("15: undo reaches behind the snapshot", 0, x.day());
        Checks.same("17: it is kept", 3, x.restoreSnapshot());
        x.passDays(1);
        Checks.same("16: a later one", 4, x.takeSnapshot());
        x.passDays(1);
        Checks.same("17: replaces it", 4, x.restoreSnapshot());
        x.register(20, 150, 10, 30, 0);
        Checks.same("17: what is done then, does not touch it", 4, x.restoreSnapshot());
        Checks.same("17: one singer", 1, x.singers());
    }

    private static void restoreRefuses() {
        Register x = new Register();
        x.passDays(2);
        Checks.refuses(x, NOT_NOW, "17: no snapshot", () -> x.restoreSnapshot());
        x.takeSnapshot();
        x.undo();
        Checks.same("17: a snapshot is not undone", 2, x.restoreSnapshot());
    }

    private static void undoBringsNothingOldBack() {
        Register x = new Register();
        x.register(11, 150, 10, 30, 12);
        x.lend(0, 1, 50);
        x.undo();
        x.undo();
        x.borrow(2, 5, 150, 10, 30, 9);
        x.announce(1, 1);
        x.setLine(0, 0, 1, 10, 20);
        x.passDays(1);
        Checks.same("15: a fee", 5, x.fees());
        x.undo();
        x.undo();
        x.undo();
        x.undo();
        Checks.same("15: nobody", 0, x.singers());
        x.register(20, 150, 10, 30, 0);
        Checks.same("15: no feast sung", 0, x.feastsOf(0));
        Checks.same("15: no descant sung", 0, x.descantsOf(0));
        Checks.same("15: own", -1, x.choirOf(0));
        Checks.same("15: never breaks", -1, x.breakDayOf(0));
        Checks.same("15: not away", -1, x.awayUntil(0));
        x.announce(3, 3);
        x.setLine(0, 0, 1, 10, 20);
        x.passDays(3);
        x.undo();
        x.undo();
        x.undo();
        x.announce(30, 1);
        Checks.same("15: no places", 0, x.placesIn(0, 0));
        x.setLine(0, 1, 1, 10, 20);
        Checks.same("15: line 0 is low again", ChoirRegister.TOO_LOW, x.whyNot(0, 0, 0));
        x.register(20, 150, 0, 0, 0);
        Checks.same("15: and not high", 0, x.whyNot(0, 1, 0));
        x.passDays(30);
        Checks.same("15: no fee", 0, x.fees());
        Checks.same("15: one feast", 1, x.feastsOf(0));
        Checks.same("15: no descant", 0, x.descantsOf(0));
        Checks.same("15: no descant", -1, x.descantIn(0));
        Checks.same("15: still in the choir", true, x.isInChoir(0));
    }

    private static void favours() {
        Register x = new Register();
        x.register(20, 150, 10, 30, 0);
        x.register(20, 150, 10, 30, 0);
        x.lend(0, 2, 5);
        x.lend(1, 2, 5);
        Checks.same("44: two lent", 2, x.favoursOf(2));
        x.borrow(2, 1, 150, 10, 30, 3);
        Checks.same("44: one borrowed", 1, x.favoursOf(2));
        Checks.same("44: another choir", 0, x.favoursOf(0));
        x.leave(2);
        x.passDays(20);
        Checks.same("44: so far", 1, x.favoursOf(2));
        for (int choir : new int[] {-1, 5, Integer.MIN_VALUE, Integer.MAX_VALUE}) {
            Checks.refuses(x, IndexOutOfBoundsException.class, "44: choir " + choir, () -> x.favoursOf(choir));
        }
    }
}
