/**
 * What is counted: a register, a calendar, the notes, a letter, the kept states and the lines, each when it is empty,
 * holds one, is full and is asked for one more; and counts that run below nothing.
 */
final class CountTests {
    private static final Class<IllegalStateException> NOT_NOW = IllegalStateException.class;

    private CountTests() {
    }

    static void run() {
        noSingers();
        oneSinger();
        thirtySingers();
        theThirtiethIsBorrowed();
        theThirtiethByLetter();
        thoseWhoLeftKeepTheirPlaces();
        noFeasts();
        oneFeast();
        twentyFeasts();
        theTwentiethByLetter();
        sixtyNotes();
        theSixtiethByLetter();
        notesThatAreOverCount();
        theLetterIsFull();
        recordedStates();
        everyActionOnFourStates();
        oneSnapshot();
        favoursRunDown();
        favoursRunUp();
        theChoirWithoutFavourLendsAgain();
        thePurseRunsBelowNothing();
        lendingsAddUp();
        feesAddUp();
        everyPlaceOfEveryLine();
        thirtySingersInPews();
        thirtySingersAtThreeFeasts();
        thirtySingersWhoSangDescants();
        askingTwice();
        theLastCall();
    }

    private static void addSingers(Register x, int count) {
        for (int i = 0; i < count; i++) {
            x.register(20, 150, 10, 30, 0);
        }
    }

    // ---- the register

    private static void noSingers() {
        Register x = new Register();
        Checks.same("18: nobody", 0, x.singers());
        Checks.same("24: nobody", -1, x.nextToBreak());
        x.announce(1, 3);
        x.setLine(0, 0, 6, 0, 0);
        Checks.same("36: nobody", 0, x.singersIn(0, 0));
        Checks.same("37: nobody", 6, x.shortfall(0));
        Checks.same("38: nobody", 6, x.shortfallBySets(0));
        Checks.same("39: nobody", 0, x.neededLine(0));
        Checks.same("40: nobody", -1, x.descantIn(0));
        Checks.same("43: nobody", 0, x.firstShortFeast());
        x.passDays(1);
        Checks.same("36: nobody, held", 0, x.singersIn(0, 0));
        Checks.same("37: nobody, held", 6, x.shortfall(0));
        Checks.same("40: nobody, held", -1, x.descantIn(0));
        Checks.same("47: nobody", 0, x.collected());
        Checks.same("49: nobody", 18, x.fines());
    }

    private static void oneSinger() {
        Register x = new Register();
        Checks.same("2: the first number", 0, x.register(11, 150, 0, 0, 12));
        Checks.same("18: one", 1, x.singers());
        Checks.same("24: one", 0, x.nextToBreak());
        x.announce(1, 1);
        x.setLine(0, 3, 1, 0, 0);
        Checks.same("35: one", 3, x.lineOf(0, 0));
        Checks.same("37: one", 0, x.shortfall(0));
        Checks.same("40: none in line 0", -1, x.descantIn(0));
        Checks.same("3: nobody stays", 0, x.leave(0));
        Checks.same("18: one who has left", 1, x.singers());
        Checks.same("24: one who has left", -1, x.nextToBreak());
        Checks.same("37: one who has left", 1, x.shortfall(0));
    }

    private static void thirtySingers() {
        Register x = new Register();
        addSingers(x, 29);
        Checks.same("2: the thirtieth", 29, x.register(70, 210, 48, 48, 0));
        Checks.same("18: thirty", 30, x.singers());
        Checks.same("20: the thirtieth", 70, x.ageOf(29));
        Checks.refuses(x, NOT_NOW, "2: one more", () -> x.register(20, 150, 10, 30, 0));
        Checks.refuses(x, NOT_NOW, "4: one more", () -> x.borrow(0, 1, 150, 10, 30, 5));
        Checks.same("3: the thirtieth", 29, x.leave(29));
        x.undo();
        x.undo();
        Checks.same("15: twenty-nine", 29, x.singers());
        Checks.same("2: room again", 29, x.register(7, 90, 0, 0, 0));
        Checks.same("20: the new thirtieth", 7, x.ageOf(29));
    }

    private static void theThirtiethIsBorrowed() {
        Register x = new Register();
        x.borrow(0, 1, 150, 10, 30, 5);
        addSingers(x, 28);
        Checks.same("4: the thirtieth", 29, x.borrow(4, 9, 150, 10, 30, 90));
        Checks.same("18: thirty", 30, x.singers());
        Checks.same("25: the thirtieth", 4, x.choirOf(29));
        Checks.refuses(x, NOT_NOW, "2: borrowed ones count", () -> x.register(20, 150, 10, 30, 0));
        Checks.refuses(x, NOT_NOW, "4: borrowed ones count", () -> x.borrow(1, 1, 150, 10, 30, 5));
        x.passDays(6);
        Checks.refuses(x, NOT_NOW, "2: also when their time is over", () -> x.register(20, 150, 10, 30, 0));
    }

    private static void theThirtiethByLetter() {
        Register x = new Register();
        addSingers(x, 29);
        Calls.write(x, "j20h150r10-30;j20h150r10-30");
        Checks.same("13: the thirty-first", 1, x.impossibleOrder());
        Calls.write(x, "j20h150r10-30;x29");
        Checks.same("13: the thirtieth", -1, x.impossibleOrder());
        Checks.same("14: the thirtieth", 2, x.carryOut());
        Checks.same("18: thirty", 30, x.singers());
        Calls.write(x, "j20h150r10-30");
        Checks.same("13: one more", 0, x.impossibleOrder());
    }

    private static void thoseWhoLeftKeepTheirPlaces() {
        Register x = new Register();
        addSingers(x, 30);
        for (int singer = 0; singer < 30; singer++) {
            Checks.same("3: those who stay", 29 - singer, x.leave(singer));
        }
        Checks.same("18: all have left", 30, x.singers());
        Checks.refuses(x, NOT_NOW, "2: all have left", () -> x.register(20, 150, 10, 30, 0));
        Checks.refuses(x, NOT_NOW, "4: all have left", () -> x.borrow(0, 1, 150, 10, 30, 5));
    }

    // ---- the calendar

    private static void noFeasts() {
        Register x = new Register();
        addSingers(x, 2);
        Checks.same("30: none", 0, x.feasts());
        Checks.same("43: none", -1, x.firstShortFeast());
        Checks.same("9: none", 0, x.passDays(99));
        Checks.same("28: none", 0, x.feastsOf(1));
    }

    private static void oneFeast() {
        Register x = new Register();
        Checks.same("7: the first number", 0, x.announce(3, 1));
        Checks.same("30: one", 1, x.feasts());
        for (int line = 0; line < 4; line++) {
            Checks.same("33: no places at first", 0, x.placesIn(0, line));
            Checks.same("36: nobody at first", 0, x.singersIn(0, line));
        }
        Checks.same("37: no places", 0, x.shortfall(0));
        Checks.same("39: no places", -1, x.neededLine(0));
        Checks.same("43: no places", -1, x.firstShortFeast());
        Checks.same("9: one", 1, x.passDays(3));
        Checks.same("45: it cost nothing", 50, x.purse());
    }

    private static void twentyFeasts() {
        Register x = new Register();
        for (int feast = 0; feast < 19; feast++) {
            x.announce(feast + 1, 1);
        }
        Checks.same("30: nineteen", 19, x.feasts());
        Checks.same("7: the twentieth", 19, x.announce(20, 3));
        Checks.same("30: twenty", 20, x.feasts());
        Checks.refuses(x, NOT_NOW, "7: one more", () -> x.announce(21, 1));
        x.setLine(19, 0, 1, 10, 20);
        Checks.same("43: the twentieth", 19, x.firstShortFeast());
        Checks.same("9: all twenty", 20, x.passDays(20));
        Checks.refuses(x, NOT_NOW, "7: held ones count", () -> x.announce(21, 1));
        x.undo();
        x.undo();
        x.undo();
        Checks.same("7: room again", 19, x.announce(20, 1));
        Checks.same("33: the new one has no places", 0, x.placesIn(19, 0));
    }

    private static void theTwentiethByLetter() {
        Register x = new Register();
        for (int feast = 0; feast < 19; feast++) {
            x.announce(feast + 1, 1);
        }
        Calls.write(x, "f20*1;f21*1");
        Checks.same("13: the twenty-first", 1, x.impossibleOrder());
        Calls.write(x, "f20*1;l19.3=6r0-48");
        Checks.same("14: the twentieth", 2, x.carryOut());
        Checks.same("33: the twentieth", 6, x.placesIn(19, 3));
        Calls.write(x, "f21*1");
        Checks.same("13: one more", 0, x.impossibleOrder());
    }

    // ---- the notes

    private static void sixtyNotes() {
        Register x = new Register();
        addSingers(x, 3);
        for (int note = 1; note <= 30; note++) {
            Checks.same("6: notes of singer 0", note, x.excuse(0, 2 * note, 2 * note));
        }
        for (int note = 1; note <= 29; note++) {
            Checks.same("6: notes of singer 1", note, x.excuse(1, note, note));
        }
        Checks.same("6: the sixtieth note", 1, x.excuse(2, 100, 160));
        for (int i = 0; i < 3; i++) {
            int singer = i;
            Checks.refuses(x, NOT_NOW, "6: one more of " + i, () -> x.excuse(singer, 300, 300));
        }
        Checks.same("27: the last note counts", true, x.isExcused(2, 160));
        x.undo();
        Checks.same("27: undone", false, x.isExcused(2, 160));
        Checks.same("6: room again", 30, x.excuse(1, 300, 300));
        Checks.refuses(x, NOT_NOW, "6: one more", () -> x.excuse(2, 300, 300));
    }

    private static void theSixtiethByLetter() {
        Register x = new Register();
        addSingers(x, 2);
        for (int note = 1; note <= 59; note++) {
            x.excuse(0, note, note);
        }
        Calls.write(x, "n1:5-65;n1:66-66");
        Checks.same("13: the sixty-first note", 1, x.impossibleOrder());
        Calls.write(x, "n1:5-65");
        Checks.same("14: the sixtieth note", 1, x.carryOut());
        Calls.write(x, "n1:66-66");
        Checks.same("13: one more", 0, x.impossibleOrder());
    }

    private static void notesThatAreOverCount() {
        Register x = new Register();
        addSingers(x, 2);
        Checks.same("6: the first note", 1, x.excuse(0, 1, 1));
        x.passDays(5);
        Checks.same("6: one is over", 2, x.excuse(0, 6, 6));
        for (int note = 3; note <= 59; note++) {
            x.excuse(0, 10 + note, 10 + note);
        }
        x.leave(0);
        x.passDays(99);
        Checks.same("6: the sixtieth note", 1, x.excuse(1, 200, 200));
        Checks.refuses(x, NOT_NOW, "6: notes of one who has left count", () -> x.excuse(1, 300, 300));
    }

    // ---- the letter

    private static void theLetterIsFull() {
        Register x = new Register();
        Checks.same("11: empty", 0, x.clearLetter());
        for (int length = 1; length <= 80; length++) {
            Checks.same("10: length", length, x.type(length % 3 == 0 ? ';' : length % 3 == 1 ? 't' : '1'));
        }
        Checks.same("12: full", -1, x.letterError());
        Checks.refuses(x, NOT_NOW, "10: one more", () -> x.type('2'));
        Checks.same("13: full", -1, x.impossibleOrder());
        Checks.same("14: twenty-seven orders", 27, x.carryOut());
        Checks.same("50: twenty-seven days", 27, x.day());
        Checks.same("11: full", 80, x.clearLetter());
        Checks.same("11: empty again", 0, x.clearLetter());
        Checks.same("10: one", 1, x.type('t'));
        Checks.same("11: one", 1, x.clearLetter());
    }

    // ---- the kept states

    private static void recordedStates() {
        Register x = new Register();
        int[] recorded = {0, 1, 2, 3, 4, 4, 4, 4};
        for (int day = 0; day < recorded.length; day++) {
            Checks.same("51: after " + day + " actions", recorded[day], x.recordedStates());
            x.passDays(1);
        }
        for (int left = 3; left >= 0; left--) {
            Checks.same("15: left", left, x.undo());
            Checks.same("51: left", left, x.recordedStates());
            Checks.same("15: day", 4 + left, x.day());
        }
        Checks.refuses(x, NOT_NOW, "15: one more", () -> x.undo());
        Checks.same("50: nothing goes further back", 4, x.day());
        x.passDays(10);
        Checks.same("51: one again", 1, x.recordedStates());
        Checks.same("15: none left", 0, x.undo());
        Checks.same("15: back", 4, x.day());
    }

    private static void everyActionOnFourStates() {
        Twins.Call[] actions = {
            x -> x.register(20, 150, 10, 20, 0), x -> x.leave(0), x -> x.borrow(0, 1, 150, 10, 20, 5),
            x -> x.lend(0, 1, 3), x -> x.excuse(0, 8, 9), x -> x.announce(9, 2), x -> x.setLine(0, 0, 2, 10, 20),
            x -> x.passDays(3), x -> x.carryOut(), x -> x.restoreSnapshot()};
        for (int i = 0; i < actions.length; i++) {
            Register x = new Register();
            x.takeSnapshot();
            Calls.write(x, "t1");
            x.register(20, 150, 10, 30, 0);
            x.announce(5, 1);
            x.passDays(1);
            x.passDays(1);
            Checks.same("51: four states", 4, x.recordedStates());
            String before = Facts.ofState(x);
            actions[i].on(x);
            Checks.same("51: still four after action " + i, 4, x.recordedStates());
            Checks.same("15: action " + i, 3, x.undo());
            Checks.that("15: action " + i + " is undone", before.equals(Facts.ofState(x)));
            x.undo();
            x.undo();
            Checks.same("15: the last one, after action " + i, 0, x.undo());
            Checks.same("51: the oldest one is not kept", 1, x.singers());
        }
    }

    private static void oneSnapshot() {
        Register x = new Register();
        Checks.refuses(x, NOT_NOW, "17: none", () -> x.restoreSnapshot());
        Checks.same("16: on day 0", 0, x.takeSnapshot());
        Checks.same("17: of an empty register", 0, x.restoreSnapshot());
        Checks.same("51: restoring is an action", 1, x.recordedStates());
        x.passDays(1);
        Checks.same("16: another one", 1, x.takeSnapshot());
        x.passDays(1);
        Checks.same("17: only the latest", 1, x.restoreSnapshot());
        Checks.same("17: again", 1, x.restoreSnapshot());
        for (int i = 0; i < 6; i++) {
            x.passDays(1);
        }
        Checks.same("17: it is kept for more than four actions", 1, x.restoreSnapshot());
        Checks.same("15: undo of restoring", 3, x.undo());
        Checks.same("50: the day before", 7, x.day());
    }

    // ---- counts that run below nothing

    private static void favoursRunDown() {
        Register x = new Register();
        for (int choir = 0; choir < 5; choir++) {
            for (int favours = -1; favours >= -3; favours--) {
                x.borrow(choir, 1, 150, 10, 20, 5);
                Checks.same("44: favours of " + choir, favours, x.favoursOf(choir));
            }
            int of = choir;
            Checks.refuses(x, NOT_NOW, "4: a fourth one", () -> x.borrow(of, 1, 150, 10, 20, 5));
            Checks.same("44: still -3", -3, x.favoursOf(choir));
        }
        Checks.same("18: three of each", 15, x.singers());
    }

    private static void favoursRunUp() {
        Register x = new Register();
        addSingers(x, 2);
        x.lend(0, 3, 1);
        x.lend(1, 3, 1);
        Checks.same("44: two lent", 2, x.favoursOf(3));
        for (int favours = 1; favours >= -3; favours--) {
            x.borrow(3, 1, 150, 10, 20, 5);
            Checks.same("44: one less", favours, x.favoursOf(3));
        }
        Checks.refuses(x, NOT_NOW, "4: the sixth one", () -> x.borrow(3, 1, 150, 10, 20, 5));
    }

    private static void theChoirWithoutFavourLendsAgain() {
        Register x = new Register();
        addSingers(x, 1);
        x.borrow(1, 1, 150, 10, 20, 5);
        x.borrow(1, 1, 150, 10, 20, 5);
        x.borrow(1, 1, 150, 10, 20, 5);
        x.leave(1);
        x.passDays(10);
        Checks.refuses(x, NOT_NOW, "4: those who left are not forgotten", () -> x.borrow(1, 1, 150, 10, 20, 5));
        x.lend(0, 1, 1);
        Checks.same("44: a favour", -2, x.favoursOf(1));
        Checks.same("4: one more", 4, x.borrow(1, 1, 150, 10, 20, 5));
        Checks.refuses(x, NOT_NOW, "4: but not two", () -> x.borrow(1, 1, 150, 10, 20, 5));
    }

    private static void thePurseRunsBelowNothing() {
        Register x = new Register();
        x.announce(1, 2);
        x.announce(2, 1);
        x.announce(3, 1);
        for (int line = 0; line < 4; line++) {
            x.setLine(0, line, 6, 0, 0);
        }
        x.setLine(1, 0, 2, 0, 0);
        x.setLine(2, 0, 1, 0, 0);
        int[] purse = {2, 0, -1};
        int[] fines = {48, 50, 51};
        for (int i = 0; i < purse.length; i++) {
            x.passDays(1);
            Checks.same("45: purse", purse[i], x.purse());
            Checks.same("46: purse by accounts", purse[i], x.purseByAccounts());
            Checks.same("49: fines", fines[i], x.fines());
        }
        x.register(20, 150, 10, 30, 0);
        x.lend(0, 0, 1);
        Checks.same("45: lending helps", 1, x.purse());
        Checks.same("46: lending helps", 1, x.purseByAccounts());
        Checks.same("47: lending is no collection", 0, x.collected());
    }

    private static void lendingsAddUp() {
        Register x = new Register();
        addSingers(x, 2);
        int due = 50;
        int[] days = {5, 90, 7, 1};
        for (int i = 0; i < days.length; i++) {
            x.lend(i % 2, i, days[i]);
            due += 2 * days[i];
            Checks.same("45: lending " + i, due, x.purse());
            Checks.same("46: lending " + i, due, x.purseByAccounts());
            x.passDays(91);
        }
        x.announce(400, 3);
        x.setLine(0, 1, 3, 10, 30);
        x.passDays(99);
        Checks.same("45: a feast after them", due + 6 - 3, x.purse());
        Checks.same("46: a feast after them", due + 6 - 3, x.purseByAccounts());
    }

    /** Three of five borrowed singers sing at a feast, and two of those at the next one. */
    private static void feesAddUp() {
        Register x = new Register();
        int[] fee = {5, 9, 2, 8, 3};
        for (int i = 0; i < fee.length; i++) {
            x.borrow(i, fee[i], 150, i % 2 == 0 ? 10 : 30, 40, 90);
        }
        x.announce(10, 1);
        x.announce(20, 2);
        x.setLine(0, 1, 3, 20, 30);
        x.setLine(1, 0, 1, 20, 30);
        x.setLine(1, 2, 1, 20, 30);
        x.passDays(10);
        Checks.same("48: three", 10, x.fees());
        Checks.same("45: three", 43, x.purse());
        Checks.same("46: three", 43, x.purseByAccounts());
        x.passDays(10);
        Checks.same("48: two more", 17, x.fees());
        Checks.same("45: two more", 40, x.purse());
        Checks.same("46: two more", 40, x.purseByAccounts());
    }

    private static void everyPlaceOfEveryLine() {
        for (int singers = 22; singers <= 26; singers++) {
            Register x = new Register();
            addSingers(x, singers);
            x.announce(1, 3);
            for (int line = 0; line < 4; line++) {
                Checks.same("8: all places", 6 * line + 6, x.setLine(0, line, 6, 10, 30));
            }
            String what = " with " + singers + " singers";
            int open = Math.max(0, 24 - singers);
            Checks.same("37: shortfall" + what, open, x.shortfall(0));
            Checks.same("38: shortfall" + what, open, x.shortfallBySets(0));
            Checks.same("39: needed" + what, open > 0 ? 0 : -1, x.neededLine(0));
            Checks.same("43: short" + what, open > 0 ? 0 : -1, x.firstShortFeast());
            Checks.same("36: the last line" + what, 6 - open, x.singersIn(0, 3));
            Checks.same("35: the last singer" + what, singers > 24 ? -1 : 3, x.lineOf(0, singers - 1));
            x.passDays(1);
            Checks.same("47: collected" + what, 3 * (24 - open), x.collected());
            Checks.same("49: fines" + what, 3 * open, x.fines());
        }
    }

    /** Every fifth singer sings nothing of the feast; the others are told, the highest ones first. */
    private static void thirtySingersInPews() {
        Register x = new Register();
        for (int singer = 0; singer < 30; singer++) {
            int lowest = singer % 5 == 0 ? 40 : 10;
            x.register(20, 200 - singer / 2, lowest, 48, 0);
        }
        x.announce(1, 1);
        for (int line = 0; line < 4; line++) {
            x.setLine(0, line, 6, 10, 30);
        }
        for (int days = 0; days < 2; days++) {
            int told = 0;
            for (int singer = 0; singer < 30; singer++) {
                boolean sings = singer % 5 != 0;
                int line = told / 6;
                String what = " of " + singer + " on day " + days;
                Checks.same("35: line" + what, sings ? line : -1, x.lineOf(0, singer));
                int rank = rankOfThirty(singer, line);
                Checks.same("41: pew" + what, sings ? rank / 2 : -1, x.pewOf(0, singer));
                Checks.same("42: seat" + what, sings ? rank % 2 : -1, x.seatOf(0, singer));
                told += sings ? 1 : 0;
            }
            x.passDays(1);
        }
    }

    /** How many of the six singers of a line sit before one of them. */
    private static int rankOfThirty(int singer, int line) {
        int told = 0;
        int before = 0;
        for (int other = 0; other < 30; other++) {
            if (other % 5 == 0) {
                continue;
            }
            boolean isLower = other / 2 > singer / 2 || other / 2 == singer / 2 && other < singer;
            before += told / 6 == line && isLower ? 1 : 0;
            told++;
        }
        return before;
    }

    /** Four of five singers sing one line each of three feasts, at each feast another one; two feasts are held. */
    private static void thirtySingersAtThreeFeasts() {
        Register x = new Register();
        for (int singer = 0; singer < 30; singer++) {
            int note = 8 * ((singer + 1) % 5);
            x.register(20, 150, note, note, 0);
        }
        for (int feast = 0; feast < 3; feast++) {
            x.announce(feast + 1, 1);
            for (int line = 0; line < 4; line++) {
                int note = 8 * ((line + feast) % 4);
                x.setLine(feast, line, 6, note, note);
            }
        }
        for (int day = 0; day <= 2; day++) {
            for (int singer = 0; singer < 30; singer++) {
                int kind = (singer + 1) % 5;
                for (int feast = 0; feast < 3; feast++) {
                    int want = kind == 4 ? -1 : (kind - feast + 4) % 4;
                    Checks.same("35: on day " + day + " of " + singer, want, x.lineOf(feast, singer));
                }
            }
            x.passDays(1);
        }
    }

    /** The last two of thirty singers take turns, as told before the feasts and after them. */
    private static void thirtySingersWhoSangDescants() {
        Register x = new Register();
        addSingers(x, 28);
        x.register(20, 150, 40, 48, 0);
        x.register(20, 150, 40, 48, 0);
        for (int feast = 0; feast < 6; feast++) {
            x.announce(feast + 1, 1);
            x.setLine(feast, 0, 2, 44, 44);
        }
        for (int day = 0; day <= 6; day++) {
            for (int feast = 5; feast >= 0; feast--) {
                String what = " on day " + day + " of feast " + feast;
                Checks.same("40: descant" + what, 28 + feast % 2, x.descantIn(feast));
            }
            Checks.same("29: singer 28 on day " + day, (day + 1) / 2, x.descantsOf(28));
            Checks.same("29: singer 29 on day " + day, day / 2, x.descantsOf(29));
            x.passDays(1);
        }
    }

    // ---- calls

    private static void askingTwice() {
        Register x = new Register();
        addSingers(x, 3);
        x.announce(5, 1);
        x.setLine(0, 0, 2, 10, 20);
        x.passDays(1);
        x.undo();
        x.undo();
        String facts = Facts.of(x);
        Checks.that("18 to 51: questions change nothing", facts.equals(Facts.of(x)));
        Checks.same("51: questions are not recorded", 2, x.recordedStates());
        Checks.same("15: and not undone", 1, x.undo());
        Checks.same("15: no feast", 0, x.feasts());
    }

    /** An object is used for 512 calls; the last of them still counts. */
    private static void theLastCall() {
        ChoirRegister x = new ChoirRegister();
        for (int call = 1; call <= 511; call++) {
            x.passDays(1);
        }
        Checks.same("50: the 512th call", 511, x.day());
        ChoirRegister y = new ChoirRegister();
        y.register(20, 150, 10, 30, 0);
        for (int call = 2; call <= 511; call++) {
            y.passDays(19);
        }
        Checks.same("20: the 512th call", 20 + 510 * 19 / 360, y.ageOf(0));
    }
}
