/** Everything that a register tells by its questions, as one text; two states that look alike have the same text. */
final class Facts {
    private static final int CHOIRS = 5;
    private static final int LINES = 4;
    private static final int DAYS_AHEAD = 200;

    private Facts() {
    }

    static String of(Register x) {
        return ofState(x) + " recorded " + x.recordedStates() + " letter " + x.letterError();
    }

    /** What belongs to the state alone: all but the letter, the recorded states and the snapshot. */
    static String ofState(Register x) {
        StringBuilder facts = new StringBuilder();
        facts.append("day ").append(x.day());
        facts.append(" coins ").append(x.purse()).append(' ').append(x.purseByAccounts());
        facts.append(' ').append(x.collected()).append(' ').append(x.fees()).append(' ').append(x.fines());
        for (int choir = 0; choir < CHOIRS; choir++) {
            facts.append(' ').append(x.favoursOf(choir));
        }
        facts.append(" next ").append(x.nextToBreak()).append(' ').append(x.firstShortFeast());
        for (int singer = 0; singer < x.singers(); singer++) {
            addSinger(facts, x, singer);
        }
        for (int feast = 0; feast < x.feasts(); feast++) {
            addFeast(facts, x, feast);
        }
        return facts.toString();
    }

    private static void addSinger(StringBuilder facts, Register x, int singer) {
        facts.append("\nsinger ").append(x.isInChoir(singer)).append(' ').append(x.ageOf(singer));
        facts.append(' ').append(x.lowestNoteOf(singer)).append(' ').append(x.highestNoteOf(singer));
        facts.append(' ').append(x.breakDayOf(singer)).append(' ').append(x.choirOf(singer));
        facts.append(' ').append(x.awayUntil(singer)).append(' ').append(x.feastsOf(singer));
        facts.append(' ').append(x.descantsOf(singer)).append(" excused");
        for (int day = 0; day <= Math.min(9999, x.day() + DAYS_AHEAD); day++) {
            if (x.isExcused(singer, day)) {
                facts.append(' ').append(day);
            }
        }
    }

    private static void addFeast(StringBuilder facts, Register x, int feast) {
        facts.append("\nfeast ").append(x.dayOf(feast)).append(' ').append(x.isHeld(feast));
        facts.append(' ').append(x.shortfall(feast)).append(' ').append(x.descantIn(feast));
        if (!x.isHeld(feast)) {
            facts.append(' ').append(x.shortfallBySets(feast)).append(' ').append(x.neededLine(feast));
        }
        for (int line = 0; line < LINES; line++) {
            facts.append(" line ").append(x.placesIn(feast, line)).append(' ').append(x.singersIn(feast, line));
        }
        for (int singer = 0; singer < x.singers(); singer++) {
            facts.append(" s ").append(x.lineOf(feast, singer));
            facts.append(' ').append(x.pewOf(feast, singer)).append(' ').append(x.seatOf(feast, singer));
            for (int line = 0; line < LINES && !x.isHeld(feast); line++) {
                facts.append(' ').append(x.whyNot(feast, singer, line));
            }
        }
    }
}
