import java.util.ArrayList;
import java.util.List;

/**
 * A ChoirRegister as the tests use it. The document leaves free what an object answers after its 512th call; so when
 * one has had so many, a new one is brought to where it was by the calls that change something, refused ones too.
 */
final class Register {
    private static final int MOST_CALLS = 512;

    private interface Call {
        long on(ChoirRegister x);
    }

    private static final class Change {
        final Call call;
        boolean isRefused = true;

        Change(Call call) {
            this.call = call;
        }
    }

    private final List<Change> changes = new ArrayList<>();
    private ChoirRegister object = new ChoirRegister();
    private int calls = 0;

    /** The object, for one call. */
    private ChoirRegister next() {
        if (calls >= MOST_CALLS) {
            renew();
        }
        calls++;
        return object;
    }

    private void renew() {
        if (changes.size() > MOST_CALLS / 2) {
            // By now the tests have looked whether these left a trace.
            changes.removeIf(change -> change.isRefused);
        }
        if (changes.size() >= MOST_CALLS) {
            throw new AssertionError("a test changes one register more often than the document lets it");
        }
        object = new ChoirRegister();
        calls = changes.size();
        for (Change change : changes) {
            again(change);
        }
    }

    private void again(Change change) {
        try {
            change.call.on(object);
        } catch (RuntimeException e) {
            if (!change.isRefused) {
                throw new AssertionError("a call is refused that was not refused before", e);
            }
        }
    }

    private int change(Call call) {
        Change change = new Change(call);
        ChoirRegister x = next();
        changes.add(change);
        long answer = call.on(x);
        change.isRefused = false;
        return (int) answer;
    }

    int register(int years, int height, int lowest, int highest, int breakAge) {
        return change(x -> x.register(years, height, lowest, highest, breakAge));
    }

    int leave(int singer) {
        return change(x -> x.leave(singer));
    }

    int borrow(int choir, int fee, int height, int lowest, int highest, int days) {
        return change(x -> x.borrow(choir, fee, height, lowest, highest, days));
    }

    int lend(int singer, int choir, int days) {
        return change(x -> x.lend(singer, choir, days));
    }

    int excuse(int singer, int first, int last) {
        return change(x -> x.excuse(singer, first, last));
    }

    int announce(int day, int rank) {
        return change(x -> x.announce(day, rank));
    }

    int setLine(int feast, int line, int places, int lowest, int highest) {
        return change(x -> x.setLine(feast, line, places, lowest, highest));
    }

    int passDays(int days) {
        return change(x -> x.passDays(days));
    }

    int type(char character) {
        return change(x -> x.type(character));
    }

    int clearLetter() {
        return change(x -> x.clearLetter());
    }

    int letterError() {
        return next().letterError();
    }

    int impossibleOrder() {
        return next().impossibleOrder();
    }

    int carryOut() {
        return change(x -> x.carryOut());
    }

    int undo() {
        return change(x -> x.undo());
    }

    int takeSnapshot() {
        return change(x -> x.takeSnapshot());
    }

    int restoreSnapshot() {
        return change(x -> x.restoreSnapshot());
    }

    int singers() {
        return next().singers();
    }

    boolean isInChoir(int singer) {
        return next().isInChoir(singer);
    }

    int ageOf(int singer) {
        return next().ageOf(singer);
    }

    int lowestNoteOf(int singer) {
        return next().lowestNoteOf(singer);
    }

    int highestNoteOf(int singer) {
        return next().highestNoteOf(singer);
    }

    int breakDayOf(int singer) {
        return next().breakDayOf(singer);
    }

    int nextToBreak() {
        return next().nextToBreak();
    }

    int choirOf(int singer) {
        return next().choirOf(singer);
    }

    int awayUntil(int singer) {
        return next().awayUntil(singer);
    }

    boolean isExcused(int singer, int day) {
        return next().isExcused(singer, day);
    }

    int feastsOf(int singer) {
        return next().feastsOf(singer);
    }

    int descantsOf(int singer) {
        return next().descantsOf(singer);
    }

    int feasts() {
        return next().feasts();
    }

    int dayOf(int feast) {
        return next().dayOf(feast);
    }

    boolean isHeld(int feast) {
        return next().isHeld(feast);
    }

    int placesIn(int feast, int line) {
        return next().placesIn(feast, line);
    }

    int whyNot(int feast, int singer, int line) {
        return next().whyNot(feast, singer, line);
    }

    int lineOf(int feast, int singer) {
        return next().lineOf(feast, singer);
    }

    int singersIn(int feast, int line) {
        return next().singersIn(feast, line);
    }

    int shortfall(int feast) {
        return next().shortfall(feast);
    }

    int shortfallBySets(int feast) {
        return next().shortfallBySets(feast);
    }

    int neededLine(int feast) {
        return next().neededLine(feast);
    }

    int descantIn(int feast) {
        return next().descantIn(feast);
    }

    int pewOf(int feast, int singer) {
        return next().pewOf(feast, singer);
    }

    int seatOf(int feast, int singer) {
        return next().seatOf(feast, singer);
    }

    int firstShortFeast() {
        return next().firstShortFeast();
    }

    int favoursOf(int choir) {
        return next().favoursOf(choir);
    }

    int purse() {
        return next().purse();
    }

    int purseByAccounts() {
        return next().purseByAccounts();
    }

    int collected() {
        return next().collected();
    }

    int fees() {
        return next().fees();
    }

    int fines() {
        return next().fines();
    }

    int day() {
        return next().day();
    }

    int recordedStates() {
        return next().recordedStates();
    }
}
