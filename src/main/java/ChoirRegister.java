import java.util.Arrays;

/**
 * The register of a choir: singers whose voices break, feasts whose lines need singers, notes of absence,
 * singers borrowed from and lent to other choirs, pews by height and a descant rota.
 */
public final class ChoirRegister {
    public static final int NONE = -1;
    public static final int HAS_LEFT = 1;
    public static final int AWAY = 2;
    public static final int EXCUSED = 3;
    public static final int BREAKING = 4;
    public static final int TOO_LOW = 5;
    public static final int TOO_HIGH = 6;

    private static final int MAX_SINGERS = 30;
    private static final int MAX_FEASTS = 20;
    private static final int MAX_NOTES = 60;
    private static final int MAX_RECORDED = 4;
    private static final int MAX_LETTER = 80;
    private static final int CHOIRS = 5;
    private static final int LINES = 4;
    private static final int LINE_SETS = 16;

    private static final int LAST_DAY = 9999;
    private static final int DAYS_OF_YEAR = 360;
    private static final int DAYS_OF_BREAKING = 90;
    private static final int MOST_DAYS_AWAY = 90;
    private static final int MOST_DAYS_PASSED = 99;
    private static final int MOST_DAYS_EXCUSED = 60;
    private static final int LEAST_YEARS = 7;
    private static final int MOST_YEARS = 70;
    private static final int LEAST_HEIGHT = 90;
    private static final int GREATEST_HEIGHT = 210;
    private static final int LEAST_BREAK_AGE = 12;
    private static final int GREATEST_BREAK_AGE = 17;
    private static final int HIGHEST_NOTE = 48;
    private static final int NOTES_LOST = 12;
    private static final int MOST_PLACES = 6;
    private static final int MOST_FEE = 9;
    private static final int HIGHEST_RANK = 3;
    private static final int LEAST_FAVOURS = -3;
    private static final int YEARS_OF_BORROWED = 30;
    private static final int COINS_AT_FIRST = 50;
    private static final int COINS_PER_DAY_LENT = 2;
    private static final int SEATS_OF_PEW = 2;
    private static final int FOR_EVER = 1000000;

    // What becomes of a call; the numbers stand for the exceptions that the document names.
    private static final int ALLOWED = 0;
    private static final int NO_SUCH = 1;
    private static final int OUT_OF_RANGE = 2;
    private static final int NOT_NOW = 3;

    // An order of a letter is a row of parts, each a sign and a number; its first sign tells its kind.
    private static final String ORDER_SIGNS = "jflnoxt";
    private static final int ORDER_REGISTER = 0;
    private static final int ORDER_ANNOUNCE = 1;
    private static final int ORDER_SET_LINE = 2;
    private static final int ORDER_EXCUSE = 3;
    private static final int ORDER_LEND = 4;
    private static final int ORDER_LEAVE = 5;
    private static final int ORDER_PASS_DAYS = 6;
    private static final int MAX_PARTS = 5;
    private static final String PART_SIGNS = "jhr-bf*l.=r-n:-o>+xt";
    private static final int BREAK_AGE_PART = 4;
    // The first part of each kind of order, and the end of the last kind.
    private static final int[] FIRST_PART = {0, 5, 7, 12, 15, 18, 19, 20};
    private static final int[] LEAST_NUMBER = {7, 90, 0, 0, 12, 1, 1, 0, 0, 0, 0, 0, 0, 1, 1, 0, 0, 1, 0, 1};
    private static final int[] GREATEST_NUMBER = {
        70, 210, 48, 48, 17, 9999, 3, 19, 3, 6, 48, 48, 29, 9999, 9999, 29, 4, 90, 29, 99};
    private static final int MAX_DIGITS = 4;

    private final Book book = new Book();
    private final Book trial = new Book();
    private final Book snapshot = new Book();
    private boolean hasSnapshot = false;
    private final Book[] recorded = new Book[MAX_RECORDED];
    private int recordedCount = 0;
    private final Letter letter = new Letter();
    private final Lineup lineup = new Lineup();

    public ChoirRegister() {
        for (int i = 0; i < MAX_RECORDED; i++) {
            recorded[i] = new Book();
        }
    }

    // ---- actions: singers

    public int register(int years, int height, int lowest, int highest, int breakAge)
            throws IllegalArgumentException, IllegalStateException {
        refuseIf(book.refusalToEnrol(years, height, lowest, highest, breakAge));
        keepState();
        return book.enrol(years, height, lowest, highest, breakAge);
    }

    public int leave(int singer) throws IndexOutOfBoundsException, IllegalStateException {
        refuseIf(book.refusalToDismiss(singer));
        keepState();
        return book.dismiss(singer);
    }

    public int borrow(int choir, int fee, int height, int lowest, int highest, int days)
            throws IndexOutOfBoundsException, IllegalArgumentException, IllegalStateException {
        refuseIf(book.refusalToHire(choir, fee, height, lowest, highest, days));
        keepState();
        return book.hire(choir, fee, height, lowest, highest, days);
    }

    public int lend(int singer, int choir, int days)
            throws IndexOutOfBoundsException, IllegalArgumentException, IllegalStateException {
        refuseIf(book.refusalToSendAway(singer, choir, days));
        keepState();
        return book.sendAway(singer, choir, days);
    }

    public int excuse(int singer, int first, int last)
            throws IndexOutOfBoundsException, IllegalArgumentException, IllegalStateException {
        refuseIf(book.refusalToTakeNote(singer, first, last));
        keepState();
        return book.takeNote(singer, first, last);
    }

    // ---- actions: feasts, days

    public int announce(int day, int rank) throws IllegalArgumentException, IllegalStateException {
        refuseIf(book.refusalToAddFeast(day, rank));
        keepState();
        return book.addFeast(day, rank);
    }

    public int setLine(int feast, int line, int places, int lowest, int highest)
            throws IndexOutOfBoundsException, IllegalArgumentException, IllegalStateException {
        refuseIf(book.refusalToArrange(feast, line, places, lowest, highest));
        keepState();
        return book.arrange(feast, line, places, lowest, highest);
    }

    public int passDays(int days) throws IllegalArgumentException, IllegalStateException {
        refuseIf(book.refusalToAdvance(days));
        keepState();
        return book.advance(days, lineup);
    }

    // ---- letters

    public int type(char character) throws IllegalStateException {
        refuseIf(letter.isFull() ? NOT_NOW : ALLOWED);
        return letter.append(character);
    }

    public int clearLetter() {
        return letter.empty();
    }

    public int letterError() {
        return letter.findError();
    }

    public int impossibleOrder() throws IllegalStateException {
        refuseIf(letter.findError() == NONE ? ALLOWED : NOT_NOW);
        return tryOrders();
    }

    public int carryOut() throws IllegalStateException {
        boolean possible = letter.findError() == NONE && tryOrders() == NONE;
        refuseIf(possible ? ALLOWED : NOT_NOW);
        keepState();
        book.copyFrom(trial);
        return letter.countOrders();
    }

    // ---- undo, snapshot

    public int undo() throws IllegalStateException {
        refuseIf(recordedCount > 0 ? ALLOWED : NOT_NOW);
        recordedCount--;
        book.copyFrom(recorded[recordedCount]);
        return recordedCount;
    }

    public int takeSnapshot() {
        snapshot.copyFrom(book);
        hasSnapshot = true;
        return book.day;
    }

    public int restoreSnapshot() throws IllegalStateException {
        refuseIf(hasSnapshot ? ALLOWED : NOT_NOW);
        keepState();
        book.copyFrom(snapshot);
        return book.day;
    }

    // ---- singers as they are

    public int singers() {
        return book.roster.count;
    }

    public boolean isInChoir(int singer) throws IndexOutOfBoundsException {
        requireSinger(singer);
        return !book.roster.hasLeftBy(singer, book.day);
    }

    public int ageOf(int singer) throws IndexOutOfBoundsException {
        requireSinger(singer);
        return (book.day - book.roster.birthDay[singer]) / DAYS_OF_YEAR;
    }

    public int lowestNoteOf(int singer) throws IndexOutOfBoundsException {
        requireSinger(singer);
        return book.roster.noteOn(singer, book.day, book.roster.lowest[singer]);
    }

    public int highestNoteOf(int singer) throws IndexOutOfBoundsException {
        requireSinger(singer);
        return book.roster.noteOn(singer, book.day, book.roster.highest[singer]);
    }

    public int breakDayOf(int singer) throws IndexOutOfBoundsException {
        requireSinger(singer);
        return book.roster.breakDay[singer];
    }

    public int nextToBreak() {
        return book.roster.nextBreakingAfter(book.day);
    }

    public int choirOf(int singer) throws IndexOutOfBoundsException {
        requireSinger(singer);
        return book.roster.choir[singer];
    }

    public int awayUntil(int singer) throws IndexOutOfBoundsException {
        requireSinger(singer);
        return book.roster.isAwayOn(singer, book.day) ? book.roster.lastDayAway[singer] : NONE;
    }

    public boolean isExcused(int singer, int day) throws IndexOutOfBoundsException, IllegalArgumentException {
        requireSinger(singer);
        refuseIf(isWithin(day, 0, LAST_DAY) ? ALLOWED : OUT_OF_RANGE);
        return book.notes.coverAnyOf(singer, day, day);
    }

    public int feastsOf(int singer) throws IndexOutOfBoundsException {
        requireSinger(singer);
        return book.roster.feastsSung[singer];
    }

    public int descantsOf(int singer) throws IndexOutOfBoundsException {
        requireSinger(singer);
        return book.roster.descantsSung[singer];
    }

    // ---- feasts; of one that is to come, everything is told as it would be if nothing but time passed until then

    public int feasts() {
        return book.calendar.count;
    }

    public int dayOf(int feast) throws IndexOutOfBoundsException {
        requireFeast(feast);
        return book.calendar.day[feast];
    }

    public boolean isHeld(int feast) throws IndexOutOfBoundsException {
        requireFeast(feast);
        return book.hasHeld(feast);
    }

    public int placesIn(int feast, int line) throws IndexOutOfBoundsException {
        requireFeast(feast);
        requireLine(line);
        return book.calendar.places[feast][line];
    }

    public int whyNot(int feast, int singer, int line) throws IndexOutOfBoundsException, IllegalStateException {
        requireFeast(feast);
        requireSinger(singer);
        requireLine(line);
        refuseIf(book.hasHeld(feast) ? NOT_NOW : ALLOWED);
        int reason = book.hindrance(singer, book.calendar.day[feast]);
        return reason != 0 ? reason : book.misfit(feast, singer, line);
    }

    public int lineOf(int feast, int singer) throws IndexOutOfBoundsException {
        requireFeast(feast);
        requireSinger(singer);
        lineup.tell(book, feast);
        return lineup.lines[singer];
    }

    public int singersIn(int feast, int line) throws IndexOutOfBoundsException {
        requireFeast(feast);
        requireLine(line);
        lineup.tell(book, feast);
        return lineup.countIn(line);
    }

    public int shortfall(int feast) throws IndexOutOfBoundsException {
        requireFeast(feast);
        lineup.tell(book, feast);
        return book.calendar.allPlaces(feast) - lineup.countAll();
    }

    public int shortfallBySets(int feast) throws IndexOutOfBoundsException, IllegalStateException {
        requireFeast(feast);
        refuseIf(book.hasHeld(feast) ? NOT_NOW : ALLOWED);
        return lineup.lackBySets(book, feast, NONE);
    }

    public int neededLine(int feast) throws IndexOutOfBoundsException, IllegalStateException {
        requireFeast(feast);
        refuseIf(book.hasHeld(feast) ? NOT_NOW : ALLOWED);
        int lack = lineup.lackBySets(book, feast, NONE);
        for (int line = 0; line < LINES; line++) {
            if (book.calendar.places[feast][line] > 0 && lineup.lackBySets(book, feast, line) < lack) {
                return line;
            }
        }
        return NONE;
    }

    public int descantIn(int feast) throws IndexOutOfBoundsException {
        requireFeast(feast);
        return book.hasHeld(feast) ? book.calendar.descant[feast] : lineup.descantToCome(book, feast);
    }

    public int pewOf(int feast, int singer) throws IndexOutOfBoundsException {
        requireFeast(feast);
        requireSinger(singer);
        lineup.tell(book, feast);
        int rank = lineup.rankByHeight(book.roster, singer);
        return rank == NONE ? NONE : rank / SEATS_OF_PEW;
    }

    public int seatOf(int feast, int singer) throws IndexOutOfBoundsException {
        requireFeast(feast);
        requireSinger(singer);
        lineup.tell(book, feast);
        int rank = lineup.rankByHeight(book.roster, singer);
        return rank == NONE ? NONE : rank % SEATS_OF_PEW;
    }

    public int firstShortFeast() {
        int feast = book.calendar.nextAfter(book.day);
        for (int i = 0; i < MAX_FEASTS && feast != NONE; i++) {
            if (lineup.lackBySets(book, feast, NONE) > 0) {
                return feast;
            }
            feast = book.calendar.nextAfter(book.calendar.day[feast]);
        }
        return NONE;
    }

    // ---- coins and other choirs

    public int favoursOf(int choir) throws IndexOutOfBoundsException {
        refuseIf(isWithin(choir, 0, CHOIRS - 1) ? ALLOWED : NO_SUCH);
        return book.favours[choir];
    }

    public int purse() {
        return book.purse;
    }

    public int purseByAccounts() {
        return COINS_AT_FIRST + book.collected + book.paidForLending - book.feesPaid - book.finesPaid;
    }

    public int collected() {
        return book.collected;
    }

    public int fees() {
        return book.feesPaid;
    }

    public int fines() {
        return book.finesPaid;
    }

    public int day() {
        return book.day;
    }

    public int recordedStates() {
        return recordedCount;
    }

    // ---- helpers

    private static void refuseIf(int refusal) {
        if (refusal == NO_SUCH) {
            throw new IndexOutOfBoundsException("there is no such singer, feast, line or choir");
        }
        if (refusal == OUT_OF_RANGE) {
            throw new IllegalArgumentException("an argument is out of range");
        }
        if (refusal == NOT_NOW) {
            throw new IllegalStateException("this is not possible as things stand");
        }
    }

    private void requireSinger(int singer) {
        refuseIf(book.roster.has(singer) ? ALLOWED : NO_SUCH);
    }

    private void requireFeast(int feast) {
        refuseIf(book.calendar.has(feast) ? ALLOWED : NO_SUCH);
    }

    private static void requireLine(int line) {
        refuseIf(isLine(line) ? ALLOWED : NO_SUCH);
    }

    private static boolean isWithin(int value, int least, int greatest) {
        return value >= least && value <= greatest;
    }

    private static boolean isLine(int line) {
        return isWithin(line, 0, LINES - 1);
    }

    private static boolean isHeightAndRange(int height, int lowest, int highest) {
        return isWithin(height, LEAST_HEIGHT, GREATEST_HEIGHT) && isRange(lowest, highest);
    }

    private static boolean isRange(int lowest, int highest) {
        return isWithin(lowest, 0, HIGHEST_NOTE) && isWithin(highest, lowest, HIGHEST_NOTE);
    }

    private void keepState() {
        if (recordedCount >= MAX_RECORDED) {
            forgetOldestState();
        }
        recorded[recordedCount].copyFrom(book);
        recordedCount++;
    }

    private void forgetOldestState() {
        Book oldest = recorded[0];
        for (int i = 1; i < MAX_RECORDED; i++) {
            recorded[i - 1] = recorded[i];
        }
        // The oldest book moves to the end to be written over, so that no action makes a new one.
        recorded[MAX_RECORDED - 1] = oldest;
        recordedCount = MAX_RECORDED - 1;
    }

    /** Carries out a valid letter in the trial book; answers the first impossible order, or NONE. */
    private int tryOrders() {
        trial.copyFrom(book);
        letter.goTo(0);
        for (int order = 0; order < MAX_LETTER && !letter.isAtEnd(); order++) {
            if (!letter.readOrder() || refusalOf(letter.kind, letter.numbers) != ALLOWED) {
                return order;
            }
            obey(letter.kind, letter.numbers);
            letter.goTo(letter.at + 1);
        }
        return NONE;
    }

    private int refusalOf(int kind, int[] n) {
        switch (kind) {
            case ORDER_REGISTER:
                return trial.refusalToEnrol(n[0], n[1], n[2], n[3], n[4]);
            case ORDER_ANNOUNCE:
                return trial.refusalToAddFeast(n[0], n[1]);
            case ORDER_SET_LINE:
                return trial.refusalToArrange(n[0], n[1], n[2], n[3], n[4]);
            case ORDER_EXCUSE:
                return trial.refusalToTakeNote(n[0], n[1], n[2]);
            case ORDER_LEND:
                return trial.refusalToSendAway(n[0], n[1], n[2]);
            case ORDER_LEAVE:
                return trial.refusalToDismiss(n[0]);
            case ORDER_PASS_DAYS:
                return trial.refusalToAdvance(n[0]);
            default:
                return NOT_NOW;
        }
    }

    private void obey(int kind, int[] n) {
        switch (kind) {
            case ORDER_REGISTER:
                trial.enrol(n[0], n[1], n[2], n[3], n[4]);
                break;
            case ORDER_ANNOUNCE:
                trial.addFeast(n[0], n[1]);
                break;
            case ORDER_SET_LINE:
                trial.arrange(n[0], n[1], n[2], n[3], n[4]);
                break;
            case ORDER_EXCUSE:
                trial.takeNote(n[0], n[1], n[2]);
                break;
            case ORDER_LEND:
                trial.sendAway(n[0], n[1], n[2]);
                break;
            case ORDER_LEAVE:
                trial.dismiss(n[0]);
                break;
            case ORDER_PASS_DAYS:
                trial.advance(n[0], lineup);
                break;
            default:
                break;
        }
    }

    /** All singers, by number. */
    private static final class Roster {
        int count = 0;
        final int[] height = new int[MAX_SINGERS];
        final int[] lowest = new int[MAX_SINGERS];
        final int[] highest = new int[MAX_SINGERS];
        final int[] birthDay = new int[MAX_SINGERS];
        final int[] breakDay = new int[MAX_SINGERS];
        final int[] choir = new int[MAX_SINGERS];
        final int[] fee = new int[MAX_SINGERS];
        final int[] lastDayInChoir = new int[MAX_SINGERS];
        final int[] lastDayAway = new int[MAX_SINGERS];
        final int[] feastsSung = new int[MAX_SINGERS];
        final int[] descantsSung = new int[MAX_SINGERS];

        void copyFrom(Roster other) {
            count = other.count;
            System.arraycopy(other.height, 0, height, 0, count);
            System.arraycopy(other.lowest, 0, lowest, 0, count);
            System.arraycopy(other.highest, 0, highest, 0, count);
            System.arraycopy(other.birthDay, 0, birthDay, 0, count);
            System.arraycopy(other.breakDay, 0, breakDay, 0, count);
            System.arraycopy(other.choir, 0, choir, 0, count);
            System.arraycopy(other.fee, 0, fee, 0, count);
            System.arraycopy(other.lastDayInChoir, 0, lastDayInChoir, 0, count);
            System.arraycopy(other.lastDayAway, 0, lastDayAway, 0, count);
            System.arraycopy(other.feastsSung, 0, feastsSung, 0, count);
            System.arraycopy(other.descantsSung, 0, descantsSung, 0, count);
        }

        boolean has(int singer) {
            return singer >= 0 && singer < count;
        }

        boolean isFull() {
            return count >= MAX_SINGERS;
        }

        /** Adds a singer of the choir's own, whose voice never breaks. */
        int add(int bornOn, int tall, int low, int high) {
            int singer = count;
            height[singer] = tall;
            lowest[singer] = low;
            highest[singer] = high;
            birthDay[singer] = bornOn;
            // The row may hold what an earlier singer left in it, who was undone.
            breakDay[singer] = NONE;
            choir[singer] = NONE;
            fee[singer] = 0;
            lastDayInChoir[singer] = FOR_EVER;
            lastDayAway[singer] = NONE;
            feastsSung[singer] = 0;
            descantsSung[singer] = 0;
            count++;
            return singer;
        }

        boolean hasLeftBy(int singer, int onDay) {
            return onDay > lastDayInChoir[singer];
        }

        int countInChoir(int onDay) {
            int inChoir = 0;
            for (int singer = 0; singer < count; singer++) {
                if (!hasLeftBy(singer, onDay)) {
                    inChoir++;
                }
            }
            return inChoir;
        }

        boolean isAwayOn(int singer, int onDay) {
            return onDay <= lastDayAway[singer];
        }

        boolean isBreakingOn(int singer, int onDay) {
            int first = breakDay[singer];
            return first != NONE && onDay >= first && onDay < first + DAYS_OF_BREAKING;
        }

        /** What has become of a note that the singer was told to have. */
        int noteOn(int singer, int onDay, int told) {
            int first = breakDay[singer];
            if (first == NONE || onDay < first + DAYS_OF_BREAKING) {
                return told;
            }
            return told < NOTES_LOST ? 0 : told - NOTES_LOST;
        }

        int nextBreakingAfter(int today) {
            int next = NONE;
            for (int singer = 0; singer < count; singer++) {
                boolean isToCome = breakDay[singer] > today && !hasLeftBy(singer, today);
                if (isToCome && (next == NONE || breakDay[singer] < breakDay[next])) {
                    next = singer;
                }
            }
            return next;
        }

        boolean isOlder(int singer, int other) {
            return birthDay[singer] < birthDay[other];
        }

        boolean sitsBefore(int singer, int other) {
            return height[singer] < height[other] || height[singer] == height[other] && singer < other;
        }
    }

    /** All notes of absence, in the order in which they were taken. */
    private static final class Notes {
        int count = 0;
        final int[] singers = new int[MAX_NOTES];
        final int[] first = new int[MAX_NOTES];
        final int[] last = new int[MAX_NOTES];

        void copyFrom(Notes other) {
            count = other.count;
            System.arraycopy(other.singers, 0, singers, 0, count);
            System.arraycopy(other.first, 0, first, 0, count);
            System.arraycopy(other.last, 0, last, 0, count);
        }

        boolean areFull() {
            return count >= MAX_NOTES;
        }

        int add(int singer, int from, int to) {
            singers[count] = singer;
            first[count] = from;
            last[count] = to;
            count++;
            int ofSinger = 0;
            for (int note = 0; note < count; note++) {
                if (singers[note] == singer) {
                    ofSinger++;
                }
            }
            return ofSinger;
        }

        boolean coverAnyOf(int singer, int from, int to) {
            for (int note = 0; note < count; note++) {
                if (singers[note] == singer && first[note] <= to && from <= last[note]) {
                    return true;
                }
            }
            return false;
        }
    }

    /** All feasts, by number, with what was sung at those that have been held. */
    private static final class Calendar {
        int count = 0;
        final int[] day = new int[MAX_FEASTS];
        final int[] rank = new int[MAX_FEASTS];
        final int[] descant = new int[MAX_FEASTS];
        final int[][] places = new int[MAX_FEASTS][LINES];
        final int[][] lowest = new int[MAX_FEASTS][LINES];
        final int[][] highest = new int[MAX_FEASTS][LINES];
        final int[][] linesSung = new int[MAX_FEASTS][MAX_SINGERS];

        void copyFrom(Calendar other) {
            count = other.count;
            System.arraycopy(other.day, 0, day, 0, count);
            System.arraycopy(other.rank, 0, rank, 0, count);
            System.arraycopy(other.descant, 0, descant, 0, count);
            for (int feast = 0; feast < count; feast++) {
                System.arraycopy(other.places[feast], 0, places[feast], 0, LINES);
                System.arraycopy(other.lowest[feast], 0, lowest[feast], 0, LINES);
                System.arraycopy(other.highest[feast], 0, highest[feast], 0, LINES);
                System.arraycopy(other.linesSung[feast], 0, linesSung[feast], 0, MAX_SINGERS);
            }
        }

        boolean has(int feast) {
            return feast >= 0 && feast < count;
        }

        boolean isFull() {
            return count >= MAX_FEASTS;
        }

        boolean hasFeastOn(int someDay) {
            for (int feast = 0; feast < count; feast++) {
                if (day[feast] == someDay) {
                    return true;
                }
            }
            return false;
        }

        int add(int onDay, int ofRank) {
            int feast = count;
            day[feast] = onDay;
            rank[feast] = ofRank;
            // The rows may hold what an earlier feast left in them, which was undone. Who sang stays as it is:
            // it is entered when the feast is held, and not asked for before.
            Arrays.fill(places[feast], 0);
            Arrays.fill(lowest[feast], 0);
            Arrays.fill(highest[feast], 0);
            count++;
            return feast;
        }

        int nextAfter(int someDay) {
            int next = NONE;
            for (int feast = 0; feast < count; feast++) {
                if (day[feast] > someDay && (next == NONE || day[feast] < day[next])) {
                    next = feast;
                }
            }
            return next;
        }

        int allPlaces(int feast) {
            int all = 0;
            for (int line = 0; line < LINES; line++) {
                all += places[feast][line];
            }
            return all;
        }
    }

    /**
     * One state of the register. Each action has a test that tells what it is refused with; the action itself is
     * called only after its test.
     */
    private static final class Book {
        int day = 0;
        final Roster roster = new Roster();
        final Notes notes = new Notes();
        final Calendar calendar = new Calendar();
        final int[] favours = new int[CHOIRS];
        int purse = COINS_AT_FIRST;
        int paidForLending = 0;
        int collected = 0;
        int feesPaid = 0;
        int finesPaid = 0;

        void copyFrom(Book other) {
            day = other.day;
            roster.copyFrom(other.roster);
            notes.copyFrom(other.notes);
            calendar.copyFrom(other.calendar);
            System.arraycopy(other.favours, 0, favours, 0, CHOIRS);
            purse = other.purse;
            paidForLending = other.paidForLending;
            collected = other.collected;
            feesPaid = other.feesPaid;
            finesPaid = other.finesPaid;
        }

        int refusalToEnrol(int years, int height, int lowest, int highest, int breakAge) {
            if (!isWithin(years, LEAST_YEARS, MOST_YEARS) || !isHeightAndRange(height, lowest, highest)) {
                return OUT_OF_RANGE;
            }
            if (breakAge != 0 && !isWithin(breakAge, LEAST_BREAK_AGE, GREATEST_BREAK_AGE)) {
                return OUT_OF_RANGE;
            }
            return roster.isFull() ? NOT_NOW : ALLOWED;
        }

        int enrol(int years, int height, int lowest, int highest, int breakAge) {
            int singer = roster.add(day - years * DAYS_OF_YEAR, height, lowest, highest);
            if (years < breakAge) {
                roster.breakDay[singer] = day + (breakAge - years) * DAYS_OF_YEAR;
            }
            return singer;
        }

        int refusalToDismiss(int singer) {
            if (!roster.has(singer)) {
                return NO_SUCH;
            }
            return roster.hasLeftBy(singer, day) ? NOT_NOW : ALLOWED;
        }

        int dismiss(int singer) {
            roster.lastDayInChoir[singer] = day - 1;
            return roster.countInChoir(day);
        }

        int refusalToHire(int choir, int fee, int height, int lowest, int highest, int days) {
            if (!isWithin(choir, 0, CHOIRS - 1)) {
                return NO_SUCH;
            }
            boolean isBargain = isWithin(fee, 0, MOST_FEE) && isWithin(days, 1, MOST_DAYS_AWAY);
            if (!isBargain || !isHeightAndRange(height, lowest, highest)) {
                return OUT_OF_RANGE;
            }
            return roster.isFull() || favours[choir] <= LEAST_FAVOURS ? NOT_NOW : ALLOWED;
        }

        int hire(int choir, int fee, int height, int lowest, int highest, int days) {
            int singer = roster.add(day - YEARS_OF_BORROWED * DAYS_OF_YEAR, height, lowest, highest);
            roster.choir[singer] = choir;
            roster.fee[singer] = fee;
            roster.lastDayInChoir[singer] = day + days;
            favours[choir]--;
            return singer;
        }

        int refusalToSendAway(int singer, int choir, int days) {
            if (!roster.has(singer) || !isWithin(choir, 0, CHOIRS - 1)) {
                return NO_SUCH;
            }
            if (!isWithin(days, 1, MOST_DAYS_AWAY)) {
                return OUT_OF_RANGE;
            }
            boolean isThere = !roster.hasLeftBy(singer, day) && !roster.isAwayOn(singer, day);
            return isThere && roster.choir[singer] == NONE ? ALLOWED : NOT_NOW;
        }

        int sendAway(int singer, int choir, int days) {
            roster.lastDayAway[singer] = day + days;
            favours[choir]++;
            paidForLending += COINS_PER_DAY_LENT * days;
            purse += COINS_PER_DAY_LENT * days;
            return roster.lastDayAway[singer];
        }

        int refusalToTakeNote(int singer, int first, int last) {
            if (!roster.has(singer)) {
                return NO_SUCH;
            }
            if (!isWithin(first, day + 1, LAST_DAY) || !isWithin(last, first, first + MOST_DAYS_EXCUSED)) {
                return OUT_OF_RANGE;
            }
            boolean isFree = !notes.areFull() && !notes.coverAnyOf(singer, first, last);
            return isFree && !roster.hasLeftBy(singer, day) ? ALLOWED : NOT_NOW;
        }

        int takeNote(int singer, int first, int last) {
            return notes.add(singer, first, last);
        }

        int refusalToAddFeast(int onDay, int rank) {
            if (!isWithin(onDay, day + 1, LAST_DAY) || !isWithin(rank, 1, HIGHEST_RANK)) {
                return OUT_OF_RANGE;
            }
            return calendar.isFull() || calendar.hasFeastOn(onDay) ? NOT_NOW : ALLOWED;
        }

        int addFeast(int onDay, int rank) {
            return calendar.add(onDay, rank);
        }

        int refusalToArrange(int feast, int line, int places, int lowest, int highest) {
            if (!calendar.has(feast) || !isLine(line)) {
                return NO_SUCH;
            }
            if (!isWithin(places, 0, MOST_PLACES) || !isRange(lowest, highest)) {
                return OUT_OF_RANGE;
            }
            return hasHeld(feast) ? NOT_NOW : ALLOWED;
        }

        int arrange(int feast, int line, int places, int lowest, int highest) {
            calendar.places[feast][line] = places;
            calendar.lowest[feast][line] = lowest;
            calendar.highest[feast][line] = highest;
            return calendar.allPlaces(feast);
        }

        int refusalToAdvance(int days) {
            if (!isWithin(days, 1, MOST_DAYS_PASSED)) {
                return OUT_OF_RANGE;
            }
            return day + days > LAST_DAY ? NOT_NOW : ALLOWED;
        }

        int advance(int days, Lineup lineup) {
            int target = day + days;
            int held = 0;
            int feast = calendar.nextAfter(day);
            for (int i = 0; i < MAX_FEASTS && feast != NONE && calendar.day[feast] <= target; i++) {
                day = calendar.day[feast];
                lineup.make(this, feast);
                enterLineup(feast, lineup);
                settleAccounts(feast, lineup);
                held++;
                feast = calendar.nextAfter(day);
            }
            day = target;
            return held;
        }

        void enterLineup(int feast, Lineup lineup) {
            int descant = lineup.chooseDescant(roster, roster.descantsSung);
            calendar.descant[feast] = descant;
            if (descant != NONE) {
                roster.descantsSung[descant]++;
            }
            System.arraycopy(lineup.lines, 0, calendar.linesSung[feast], 0, MAX_SINGERS);
            for (int singer = 0; singer < roster.count; singer++) {
                if (lineup.lines[singer] != NONE) {
                    roster.feastsSung[singer]++;
                }
            }
        }

        void settleAccounts(int feast, Lineup lineup) {
            int fee = 0;
            for (int singer = 0; singer < roster.count; singer++) {
                if (lineup.lines[singer] != NONE) {
                    fee += roster.fee[singer];
                }
            }
            int brought = calendar.rank[feast] * lineup.countAll();
            int fine = calendar.rank[feast] * (calendar.allPlaces(feast) - lineup.countAll());
            collected += brought;
            feesPaid += fee;
            finesPaid += fine;
            purse += brought - fee - fine;
        }

        boolean hasHeld(int feast) {
            return calendar.day[feast] <= day;
        }

        /** The reason why a singer can sing nothing at all on a day; 0 if there is none. */
        int hindrance(int singer, int onDay) {
            if (roster.hasLeftBy(singer, onDay)) {
                return HAS_LEFT;
            }
            if (roster.isAwayOn(singer, onDay)) {
                return AWAY;
            }
            if (notes.coverAnyOf(singer, onDay, onDay)) {
                return EXCUSED;
            }
            return roster.isBreakingOn(singer, onDay) ? BREAKING : 0;
        }

        /** The reason why a line does not fit the singer's range on the day of the feast; 0 if it does. */
        int misfit(int feast, int singer, int line) {
            int onDay = calendar.day[feast];
            if (calendar.lowest[feast][line] < roster.noteOn(singer, onDay, roster.lowest[singer])) {
                return TOO_LOW;
            }
            return calendar.highest[feast][line] > roster.noteOn(singer, onDay, roster.highest[singer]) ? TOO_HIGH : 0;
        }
    }

    /**
     * The lineup of one feast at a time; its rows serve for every feast. A set of lines is a number whose bit l
     * stands for line l.
     */
    private static final class Lineup {
        final int[] lines = new int[MAX_SINGERS];
        private final int[] canSing = new int[MAX_SINGERS];
        private final int[] open = new int[LINES];
        private final int[] bounds = new int[LINE_SETS];
        private final int[] descants = new int[MAX_SINGERS];

        /** Recalls the lineup of a feast that has been held, or makes that of one to come. */
        void tell(Book book, int feast) {
            if (book.hasHeld(feast)) {
                System.arraycopy(book.calendar.linesSung[feast], 0, lines, 0, MAX_SINGERS);
            } else {
                make(book, feast);
            }
        }

        void make(Book book, int feast) {
            listWhoCanSing(book, feast);
            Arrays.fill(lines, NONE);
            System.arraycopy(book.calendar.places[feast], 0, open, 0, LINES);
            setBounds(book.roster.count);
            int fillable = leastBound();
            for (int singer = 0; singer < book.roster.count; singer++) {
                int line = firstGoodLine(canSing[singer], fillable);
                lines[singer] = line;
                strikeOut(canSing[singer], line);
                if (line != NONE) {
                    fillable--;
                }
            }
        }

        private void listWhoCanSing(Book book, int feast) {
            for (int singer = 0; singer < book.roster.count; singer++) {
                canSing[singer] = 0;
                if (book.hindrance(singer, book.calendar.day[feast]) != 0) {
                    continue;
                }
                for (int line = 0; line < LINES; line++) {
                    if (book.misfit(feast, singer, line) == 0) {
                        canSing[singer] |= 1 << line;
                    }
                }
            }
        }

        // For any set of lines, no more places can be filled than stand open outside the set, plus the singers
        // without a line yet who can sing in it. By Koenig's theorem the least of these bounds can be reached.
        private void setBounds(int singers) {
            for (int set = 0; set < LINE_SETS; set++) {
                bounds[set] = countWhoCanSing(set, singers);
                for (int line = 0; line < LINES; line++) {
                    if (!contains(set, line)) {
                        bounds[set] += open[line];
                    }
                }
            }
        }

        private int leastBound() {
            int least = bounds[0];
            for (int set = 1; set < LINE_SETS; set++) {
                least = bounds[set] < least ? bounds[set] : least;
            }
            return least;
        }

        private int firstGoodLine(int able, int fillable) {
            for (int line = 0; line < LINES; line++) {
                if (contains(able, line) && open[line] > 0 && keepsFillable(able, line, fillable)) {
                    return line;
                }
            }
            return NONE;
        }

        /** Tells whether all the other places that can be filled still can be, once this line is given. */
        private boolean keepsFillable(int able, int line, int fillable) {
            for (int set = 0; set < LINE_SETS; set++) {
                if (bounds[set] - cost(set, able, line) < fillable - 1) {
                    return false;
                }
            }
            return true;
        }

        private void strikeOut(int able, int line) {
            for (int set = 0; set < LINE_SETS; set++) {
                bounds[set] -= cost(set, able, line);
            }
            if (line != NONE) {
                open[line]--;
            }
        }

        /** By how much the bound of a set falls when a singer is told a line, or told to have none. */
        private static int cost(int set, int able, int line) {
            int cost = (able & set) != 0 ? 1 : 0;
            return line != NONE && (set & 1 << line) == 0 ? cost + 1 : cost;
        }

        private static boolean contains(int set, int line) {
            return (set & 1 << line) != 0;
        }

        private int countWhoCanSing(int set, int singers) {
            int able = 0;
            for (int singer = 0; singer < singers; singer++) {
                if ((canSing[singer] & set) != 0) {
                    able++;
                }
            }
            return able;
        }

        /** The shortfall told by sets of lines; one place of the spared line is left out, unless that is NONE. */
        int lackBySets(Book book, int feast, int spared) {
            listWhoCanSing(book, feast);
            int greatest = 0;
            for (int set = 0; set < LINE_SETS; set++) {
                int lack = -countWhoCanSing(set, book.roster.count);
                for (int line = 0; line < LINES; line++) {
                    if (contains(set, line)) {
                        lack += book.calendar.places[feast][line] - (line == spared ? 1 : 0);
                    }
                }
                greatest = lack > greatest ? lack : greatest;
            }
            return greatest;
        }

        int countIn(int line) {
            int singing = 0;
            for (int singer = 0; singer < MAX_SINGERS; singer++) {
                if (lines[singer] == line) {
                    singing++;
                }
            }
            return singing;
        }

        int countAll() {
            return MAX_SINGERS - countIn(NONE);
        }

        int chooseDescant(Roster roster, int[] sung) {
            int chosen = NONE;
            for (int singer = 0; singer < roster.count; singer++) {
                if (lines[singer] != 0) {
                    continue;
                }
                if (chosen == NONE || sung[singer] < sung[chosen]
                        || sung[singer] == sung[chosen] && roster.isOlder(singer, chosen)) {
                    chosen = singer;
                }
            }
            return chosen;
        }

        /** The descant of a feast to come; those of the feasts before it are counted on the way. */
        int descantToCome(Book book, int feast) {
            System.arraycopy(book.roster.descantsSung, 0, descants, 0, MAX_SINGERS);
            int next = book.calendar.nextAfter(book.day);
            for (int i = 0; i < MAX_FEASTS && next != NONE; i++) {
                make(book, next);
                int chosen = chooseDescant(book.roster, descants);
                if (next == feast) {
                    return chosen;
                }
                if (chosen != NONE) {
                    descants[chosen]++;
                }
                next = book.calendar.nextAfter(book.calendar.day[next]);
            }
            return NONE;
        }

        /** How many singers of the same line sit before this one; NONE if the singer is not in the lineup. */
        int rankByHeight(Roster roster, int singer) {
            if (lines[singer] == NONE) {
                return NONE;
            }
            int before = 0;
            for (int other = 0; other < roster.count; other++) {
                if (lines[other] == lines[singer] && roster.sitsBefore(other, singer)) {
                    before++;
                }
            }
            return before;
        }
    }

    /** The letter, and the place to which the reading of its orders has come. */
    private static final class Letter {
        private final char[] signs = new char[MAX_LETTER];
        private int length = 0;
        int at = 0;
        int kind = NONE;
        final int[] numbers = new int[MAX_PARTS];
        private int number = 0;

        boolean isFull() {
            return length >= MAX_LETTER;
        }

        int append(char sign) {
            signs[length] = sign;
            length++;
            return length;
        }

        int empty() {
            int had = length;
            length = 0;
            return had;
        }

        /** The number of orders of a valid letter. */
        int countOrders() {
            int orders = 1;
            for (int i = 0; i < length; i++) {
                if (signs[i] == ';') {
                    orders++;
                }
            }
            return orders;
        }

        void goTo(int place) {
            at = place;
        }

        boolean isAtEnd() {
            return at >= length;
        }

        int findError() {
            goTo(0);
            for (int order = 0; order < MAX_LETTER; order++) {
                if (!readOrder()) {
                    return at;
                }
                if (isAtEnd()) {
                    return NONE;
                }
                if (!skip(';')) {
                    return at;
                }
            }
            return at;
        }

        /** Reads one order; if there is none, the reading stops at the first sign that no order can have. */
        boolean readOrder() {
            kind = isAtEnd() ? NONE : ORDER_SIGNS.indexOf(signs[at]);
            if (kind < 0) {
                return false;
            }
            int first = FIRST_PART[kind];
            for (int part = first; part < FIRST_PART[kind + 1]; part++) {
                if (part == BREAK_AGE_PART && !stands(PART_SIGNS.charAt(part))) {
                    number = 0;
                } else if (!skip(PART_SIGNS.charAt(part)) || !readNumber(LEAST_NUMBER[part], GREATEST_NUMBER[part])) {
                    return false;
                }
                numbers[part - first] = number;
            }
            return true;
        }

        private boolean stands(char sign) {
            return at < length && signs[at] == sign;
        }

        private boolean skip(char sign) {
            if (!stands(sign)) {
                return false;
            }
            at++;
            return true;
        }

        private boolean readNumber(int least, int greatest) {
            number = 0;
            int digits = 0;
            while (at < length && isWithin(signs[at], '0', '9')) {
                int longer = number * 10 + signs[at] - '0';
                boolean hasLeadingZero = digits > 0 && number == 0;
                if (hasLeadingZero || !canBegin(longer, least, greatest)) {
                    return false;
                }
                number = longer;
                digits++;
                at++;
            }
            return digits > 0 && isWithin(number, least, greatest);
        }

        /** Tells whether some number of the range begins with these digits, or is just these. */
        private static boolean canBegin(int digits, int least, int greatest) {
            if (digits == 0) {
                return least == 0;
            }
            int low = digits;
            int high = digits;
            for (int more = 0; more < MAX_DIGITS && low <= greatest; more++) {
                if (high >= least) {
                    return true;
                }
                low = low * 10;
                high = high * 10 + 9;
            }
            return false;
        }
    }
}
