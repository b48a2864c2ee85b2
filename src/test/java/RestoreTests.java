/**
 * What belongs to a state, and so comes back with undo and with the snapshot: each part of it has a check of its own,
 * after another state of the same size has been written over it. And what does not belong to it.
 */
final class RestoreTests {
    private RestoreTests() {
    }

    static void run() {
        singersComeBack();
        feastsComeBack();
        heldFeastsComeBack();
        notesComeBack();
        coinsAndFavoursComeBack();
        newSingersBeginWithNothing();
        newFeastsBeginWithNothing();
        allThatIsAskedComesBack();
        undoReachesFarApart();
        snapshotIsNoPartOfTheState();
        letterIsNoPartOfTheState();
        recordedStatesAreNoPartOfTheState();
    }

    private static void carryOut(Register x, String letter) {
        Calls.write(x, letter);
        x.carryOut();
    }

    /** A state is kept, undone and written over by another one of the same size; then the kept one is brought back. */
    private static Register broughtBack(Twins.Script kept, Twins.Script over) {
        Register x = new Register();
        kept.on(x);
        x.takeSnapshot();
        while (x.recordedStates() > 0) {
            x.undo();
        }
        over.on(x);
        x.restoreSnapshot();
        return x;
    }

    // ---- each part of the state

    private static void singersComeBack() {
        Register x = broughtBack(
            y -> carryOut(y, "j11h200r14-40b12;j40h100r20-30;o0>3+5"),
            y -> carryOut(y, "j12h100r0-48;j50h200r0-48b17;t9;x1"));
        Checks.same("17: day", 0, x.day());
        Checks.same("17: age", 11, x.ageOf(0));
        Checks.same("17: age", 40, x.ageOf(1));
        Checks.same("17: lowest", 14, x.lowestNoteOf(0));
        Checks.same("17: highest", 30, x.highestNoteOf(1));
        Checks.same("17: break day", 360, x.breakDayOf(0));
        Checks.same("17: break day", -1, x.breakDayOf(1));
        Checks.same("17: away", 5, x.awayUntil(0));
        Checks.same("17: in the choir", true, x.isInChoir(1));
        carryOut(x, "f9*1;l0.0=2r20-30");
        Checks.same("17: height of the higher one", 1, x.seatOf(0, 0));
        Checks.same("17: height of the lower one", 0, x.seatOf(0, 1));
        Register z = broughtBack(y -> y.borrow(3, 7, 150, 10, 30, 50), y -> y.borrow(2, 1, 150, 10, 30, 4));
        Checks.same("17: choir", 3, z.choirOf(0));
        carryOut(z, "f50*1;l0.0=1r20-30;t50");
        Checks.same("17: fee, and the days of borrowing", 7, z.fees());
    }

    private static void feastsComeBack() {
        Register x = broughtBack(
            y -> carryOut(y, "j20h150r10-30;f9*3;l0.0=1r10-30;l0.1=2r9-30;l0.2=3r10-31"),
            y -> carryOut(y, "j20h150r10-30;f8*1;l0.0=6r0-0;l0.1=6r48-48;l0.2=6r0-0"));
        Checks.same("17: day of the feast", 9, x.dayOf(0));
        for (int line = 0; line < 4; line++) {
            Checks.same("17: places of line " + line, (line + 1) % 4, x.placesIn(0, line));
        }
        Checks.same("17: span of line 0", 0, x.whyNot(0, 0, 0));
        Checks.same("17: lowest note of line 1", ChoirRegister.TOO_LOW, x.whyNot(0, 0, 1));
        Checks.same("17: highest note of line 2", ChoirRegister.TOO_HIGH, x.whyNot(0, 0, 2));
        x.passDays(9);
        Checks.same("17: rank", 3, x.collected());
        Checks.same("17: rank", 15, x.fines());
    }

    private static void heldFeastsComeBack() {
        Register x = broughtBack(
            y -> carryOut(y, "j20h150r10-30;j20h160r0-30;f1*1;l0.0=1r5-6;l0.1=1r10-30;t1"),
            y -> carryOut(y, "j20h150r10-30;j20h160r0-30;f1*1;l0.0=1r10-30;t1;t1"));
        Checks.same("17: held", true, x.isHeld(0));
        Checks.same("17: line of singer 0", 1, x.lineOf(0, 0));
        Checks.same("17: line of singer 1", 0, x.lineOf(0, 1));
        Checks.same("17: descant", 1, x.descantIn(0));
        Checks.same("17: feasts sung", 1, x.feastsOf(1));
        Checks.same("17: descants sung by singer 0", 0, x.descantsOf(0));
        Checks.same("17: descants sung by singer 1", 1, x.descantsOf(1));
        Checks.same("17: pew", 0, x.pewOf(0, 1));
        Checks.same("17: shortfall", 0, x.shortfall(0));
    }

    private static void notesComeBack() {
        Register x = broughtBack(
            y -> carryOut(y, "j20h150r10-30;j20h150r10-30;n0:5-9;n1:20-29"),
            y -> carryOut(y, "j20h150r10-30;j20h150r10-30;n1:40-41;n0:60-61;n0:70-70"));
        int[] day = {4, 5, 9, 10, 19, 20, 29, 30, 40, 60, 70};
        for (int onDay : day) {
            Checks.same("17: notes of singer 0 on day " + onDay, onDay == 5 || onDay == 9, x.isExcused(0, onDay));
            Checks.same("17: notes of singer 1 on day " + onDay, onDay == 20 || onDay == 29, x.isExcused(1, onDay));
        }
        Checks.same("17: the number of notes", 2, x.excuse(0, 60, 61));
    }

    private static void coinsAndFavoursComeBack() {
        Register x = broughtBack(y -> {
            y.borrow(4, 7, 150, 10, 30, 50);
            carryOut(y, "j20h150r0-9;f1*3;l0.0=2r10-30;t1;o1>2+3");
        }, y -> {
            y.borrow(2, 1, 150, 10, 30, 50);
            carryOut(y, "j20h150r0-9;f1*1;l0.0=3r10-30;t1;o1>4+9");
        });
        Checks.same("17: favours of 2", 1, x.favoursOf(2));
        Checks.same("17: favours of 4", -1, x.favoursOf(4));
        Checks.same("17: collected", 3, x.collected());
        Checks.same("17: fees", 7, x.fees());
        Checks.same("17: fines", 3, x.fines());
        Checks.same("17: purse", 49, x.purse());
        Checks.same("17: purse by accounts", 49, x.purseByAccounts());
        x.undo();
        Checks.same("15: favours of 4", 1, x.favoursOf(4));
        Checks.same("15: favours of 2", -1, x.favoursOf(2));
        Checks.same("15: collected", 1, x.collected());
        Checks.same("15: fees", 1, x.fees());
        Checks.same("15: fines", 2, x.fines());
        Checks.same("15: purse", 66, x.purse());
        Checks.same("15: purse by accounts", 66, x.purseByAccounts());
    }

    // ---- what was undone leaves nothing behind

    private static void newSingersBeginWithNothing() {
        Register x = new Register();
        carryOut(x, "j11h150r10-30b12;f1*1;l0.0=1r10-30;t1;n0:2-9;o0>1+9");
        Checks.same("28: sang", 1, x.feastsOf(0));
        x.undo();
        x.borrow(1, 9, 150, 10, 30, 1);
        x.undo();
        Checks.same("2: the same number", 0, x.register(20, 150, 10, 30, 0));
        Checks.same("28: nothing sung", 0, x.feastsOf(0));
        Checks.same("29: no descant sung", 0, x.descantsOf(0));
        Checks.same("23: never breaks", -1, x.breakDayOf(0));
        Checks.same("25: own", -1, x.choirOf(0));
        Checks.same("26: not away", -1, x.awayUntil(0));
        Checks.same("27: not excused", false, x.isExcused(0, 5));
        Checks.same("6: no notes", 1, x.excuse(0, 20, 20));
        carryOut(x, "f5*1;l0.0=1r10-30;t5");
        Checks.same("19: stays", true, x.isInChoir(0));
        Checks.same("48: no fee", 0, x.fees());
        Checks.same("28: one sung", 1, x.feastsOf(0));
        Checks.same("29: one descant sung", 1, x.descantsOf(0));
    }

    private static void newFeastsBeginWithNothing() {
        Register x = new Register();
        x.register(20, 150, 10, 30, 0);
        x.register(20, 150, 0, 0, 0);
        carryOut(x, "f1*3;l0.0=6r10-30;l0.1=6r10-30;l0.2=6r10-30;l0.3=6r10-30;t1");
        x.undo();
        Checks.same("7: the same number", 0, x.announce(2, 1));
        Checks.same("32: not held", false, x.isHeld(0));
        Checks.same("35: nobody sings", -1, x.lineOf(0, 0));
        Checks.same("40: no descant", -1, x.descantIn(0));
        Checks.same("37: no shortfall", 0, x.shortfall(0));
        for (int line = 0; line < 4; line++) {
            Checks.same("33: no places", 0, x.placesIn(0, line));
            Checks.same("34: both notes are 0", ChoirRegister.TOO_LOW, x.whyNot(0, 0, line));
            Checks.same("34: both notes are 0", 0, x.whyNot(0, 1, line));
        }
        Checks.same("9: one is held", 1, x.passDays(2));
        Checks.same("35: nobody sang", -1, x.lineOf(0, 0));
        Checks.same("40: no descant was sung", -1, x.descantIn(0));
        Checks.same("45: it cost nothing", 50, x.purse());
    }

    // ---- the whole state

    private static void firstOfTwo(Register x) {
        x.borrow(3, 7, 150, 10, 30, 60);
        carryOut(x, "j11h140r24-40b12;j40h170r8-30;f9*2;l0.0=2r10-20;l0.1=2r26-40;t7");
        carryOut(x, "f40*3;l1.0=3r10-20;l1.2=1r0-8;n1:12-40;o2>1+30;t2");
    }

    private static void secondOfTwo(Register x) {
        x.borrow(1, 2, 170, 0, 20, 20);
        carryOut(x, "j16h180r14-30b17;j30h130r10-40;f5*1;l0.0=3r10-20;l0.3=1r0-48;t9");
        carryOut(x, "f30*1;l1.1=4r12-19;l1.3=2r10-30;n2:20-30;x1;t3");
    }

    private static void allThatIsAskedComesBack() {
        Register plain = Twins.made(RestoreTests::firstOfTwo);
        Register over = Twins.made(RestoreTests::secondOfTwo);
        Register x = broughtBack(RestoreTests::firstOfTwo, RestoreTests::secondOfTwo);
        Checks.that("17: all that is asked", Facts.ofState(plain).equals(Facts.ofState(x)));
        x.undo();
        Checks.that("15: all that is asked", Facts.ofState(over).equals(Facts.ofState(x)));
        x.passDays(50);
        over.passDays(50);
        Checks.that("15: what comes of it", Facts.ofState(over).equals(Facts.ofState(x)));
        x.restoreSnapshot();
        x.passDays(50);
        plain.passDays(50);
        Checks.that("17: what comes of it", Facts.ofState(plain).equals(Facts.ofState(x)));
    }

    private static void undoReachesFarApart() {
        Register x = new Register();
        String[] before = new String[12];
        for (int i = 0; i < before.length; i++) {
            before[i] = Facts.ofState(x);
            if (i % 3 == 0) {
                carryOut(x, "j20h1" + (50 + i) + "r10-30;f" + (30 + i) + "*1;l" + i / 3 + ".0=2r10-20");
            } else {
                x.passDays(i);
            }
            if (i % 5 == 4) {
                x.undo();
                Checks.that("15: before action " + i, before[i].equals(Facts.ofState(x)));
                x.passDays(i);
            }
        }
        for (int i = before.length - 1; i >= before.length - 4; i--) {
            x.undo();
            Checks.that("15: before action " + i, before[i].equals(Facts.ofState(x)));
        }
        Checks.same("51: none is left", 0, x.recordedStates());
    }

    // ---- what is no part of the state

    private static void snapshotIsNoPartOfTheState() {
        Register x = new Register();
        x.passDays(1);
        x.takeSnapshot();
        x.passDays(1);
        x.takeSnapshot();
        x.undo();
        Checks.same("15: undo leaves the later snapshot", 2, x.restoreSnapshot());
        x.undo();
        x.undo();
        Checks.same("50: day 0", 0, x.day());
        Checks.same("15: undo of all leaves the snapshot", 2, x.restoreSnapshot());
        Checks.same("17: restoring leaves the snapshot", 2, x.restoreSnapshot());
    }

    private static void letterIsNoPartOfTheState() {
        Register x = new Register();
        Calls.write(x, "t1");
        x.takeSnapshot();
        x.passDays(5);
        Calls.write(x, "t2;t3");
        x.undo();
        Checks.same("15: the letter stays", 2, x.carryOut());
        x.restoreSnapshot();
        Checks.same("17: the letter stays", 5, x.clearLetter());
        x.undo();
        Checks.same("15: the letter stays empty", 0, x.letterError());
        Checks.same("15: the letter stays empty", 0, x.clearLetter());
    }

    private static void recordedStatesAreNoPartOfTheState() {
        Register x = new Register();
        x.takeSnapshot();
        x.passDays(1);
        x.passDays(1);
        Checks.same("51: two", 2, x.recordedStates());
        x.restoreSnapshot();
        Checks.same("51: restoring records one more", 3, x.recordedStates());
        Checks.same("15: two are left", 2, x.undo());
        Checks.same("50: day 2", 2, x.day());
        Checks.same("15: one is left", 1, x.undo());
        Checks.same("50: day 1", 1, x.day());
    }
}
