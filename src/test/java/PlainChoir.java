import java.util.ArrayList;
import java.util.List;

/**
 * The document said once more, as plainly as can be and with nothing shared with ChoirRegister: days pass one by
 * one, a feast to come is asked in a copy in which its day has come, and lineups are found by trying.
 */
final class PlainChoir {
    static final class Singer {
        int bornOn;
        int breaksOn = -1;
        int height;
        int lowest;
        int highest;
        int choir = -1;
        int fee;
        int staysUntil;
        boolean hasLeft;
        int awayUntil = -1;
        int feasts;
        int descants;
        List<int[]> notes = new ArrayList<>();

        Singer copy() {
            Singer copy = new Singer();
            copy.bornOn = bornOn;
            copy.breaksOn = breaksOn;
            copy.height = height;
            copy.lowest = lowest;
            copy.highest = highest;
            copy.choir = choir;
            copy.fee = fee;
            copy.staysUntil = staysUntil;
            copy.hasLeft = hasLeft;
            copy.awayUntil = awayUntil;
            copy.feasts = feasts;
            copy.descants = descants;
            copy.notes = new ArrayList<>(notes);
            return copy;
        }

        boolean hasBroken(int day) {
            return breaksOn >= 0 && day >= breaksOn + 90;
        }

        int low(int day) {
            return hasBroken(day) ? Math.max(0, lowest - 12) : lowest;
        }

        int high(int day) {
            return hasBroken(day) ? Math.max(0, highest - 12) : highest;
        }
    }

    static final class Feast {
        int day;
        int rank;
        boolean held;
        int[][] lines = new int[4][3];
        int[] lineup = new int[0];
        int descant = -1;

        Feast copy() {
            Feast copy = new Feast();
            copy.day = day;
            copy.rank = rank;
            copy.held = held;
            for (int line = 0; line < 4; line++) {
                copy.lines[line] = lines[line].clone();
            }
            copy.lineup = lineup.clone();
            copy.descant = descant;
            return copy;
        }

        int[] places() {
            return new int[] {lines[0][0], lines[1][0], lines[2][0], lines[3][0]};
        }
    }

    int day;
    List<Singer> singers = new ArrayList<>();
    List<Feast> feasts = new ArrayList<>();
    int[] favours = new int[5];
    int purse = 50;
    int lendings;
    int collected;
    int fees;
    int fines;

    PlainChoir copy() {
        PlainChoir copy = new PlainChoir();
        copy.day = day;
        for (Singer singer : singers) {
            copy.singers.add(singer.copy());
        }
        for (Feast feast : feasts) {
            copy.feasts.add(feast.copy());
        }
        copy.favours = favours.clone();
        copy.purse = purse;
        copy.lendings = lendings;
        copy.collected = collected;
        copy.fees = fees;
        copy.fines = fines;
        return copy;
    }

    private static void argument(boolean fits) {
        if (!fits) {
            throw new IllegalArgumentException();
        }
    }

    private static void index(int number, int end) {
        if (number < 0 || number >= end) {
            throw new IndexOutOfBoundsException();
        }
    }

    private static void state(boolean fits) {
        if (!fits) {
            throw new IllegalStateException();
        }
    }

    private static boolean in(int value, int least, int greatest) {
        return least <= value && value <= greatest;
    }

    Singer singer(int number) {
        index(number, singers.size());
        return singers.get(number);
    }

    Feast feast(int number) {
        index(number, feasts.size());
        return feasts.get(number);
    }

    // ---- actions

    int register(int years, int height, int lowest, int highest, int breakAge) {
        argument(in(years, 7, 70) && in(height, 90, 210) && in(lowest, 0, 48) && in(highest, lowest, 48));
        argument(breakAge == 0 || in(breakAge, 12, 17));
        state(singers.size() < 30);
        Singer singer = new Singer();
        singer.bornOn = day - 360 * years;
        singer.height = height;
        singer.lowest = lowest;
        singer.highest = highest;
        singer.staysUntil = 100000;
        if (years < breakAge) {
            singer.breaksOn = singer.bornOn + 360 * breakAge;
        }
        singers.add(singer);
        return singers.size() - 1;
    }

    int leave(int number) {
        Singer singer = singer(number);
        state(!singer.hasLeft);
        singer.hasLeft = true;
        int stay = 0;
        for (Singer other : singers) {
            stay += other.hasLeft ? 0 : 1;
        }
        return stay;
    }

    int borrow(int choir, int fee, int height, int lowest, int highest, int days) {
        index(choir, 5);
        argument(in(fee, 0, 9) && in(days, 1, 90));
        argument(in(height, 90, 210) && in(lowest, 0, 48) && in(highest, lowest, 48));
        state(singers.size() < 30 && favours[choir] > -3);
        int number = register(30, height, lowest, highest, 0);
        Singer singer = singers.get(number);
        singer.choir = choir;
        singer.fee = fee;
        singer.staysUntil = day + days;
        favours[choir]--;
        return number;
    }

    int lend(int number, int choir, int days) {
        Singer singer = singer(number);
        index(choir, 5);
        argument(in(days, 1, 90));
        state(!singer.hasLeft && singer.choir < 0 && singer.awayUntil < day);
        singer.awayUntil = day + days;
        favours[choir]++;
        purse += 2 * days;
        lendings += 2 * days;
        return day + days;
    }

    int excuse(int number, int first, int last) {
        Singer singer = singer(number);
        argument(first > day && first <= 9999 && last >= first && last <= first + 60);
        state(!singer.hasLeft);
        int all = 0;
        for (Singer other : singers) {
            all += other.notes.size();
        }
        state(all < 60);
        for (int someDay = first; someDay <= last; someDay++) {
            state(!isExcused(singer, someDay));
        }
        singer.notes.add(new int[] {first, last});
        return singer.notes.size();
    }

    int announce(int onDay, int rank) {
        argument(onDay > day && onDay <= 9999 && in(rank, 1, 3));
        for (Feast feast : feasts) {
            state(feast.day != onDay);
        }
        state(feasts.size() < 20);
        Feast feast = new Feast();
        feast.day = onDay;
        feast.rank = rank;
        feasts.add(feast);
        return feasts.size() - 1;
    }

    int setLine(int number, int line, int places, int lowest, int highest) {
        Feast feast = feast(number);
        index(line, 4);
        argument(in(places, 0, 6) && in(lowest, 0, 48) && in(highest, lowest, 48));
        state(!feast.held);
        feast.lines[line] = new int[] {places, lowest, highest};
        return feast.lines[0][0] + feast.lines[1][0] + feast.lines[2][0] + feast.lines[3][0];
    }

    int passDays(int days) {
        argument(in(days, 1, 99));
        state(day + days <= 9999);
        int held = 0;
        for (int i = 0; i < days; i++) {
            held += passDay();
        }
        return held;
    }

    private int passDay() {
        day++;
        for (Singer singer : singers) {
            if (day > singer.staysUntil) {
                singer.hasLeft = true;
            }
        }
        for (Feast feast : feasts) {
            if (feast.day == day) {
                hold(feast);
                return 1;
            }
        }
        return 0;
    }

    private void hold(Feast feast) {
        feast.held = true;
        feast.lineup = lineup(feast);
        feast.descant = descant(feast.lineup);
        if (feast.descant >= 0) {
            singers.get(feast.descant).descants++;
        }
        int open = feast.lines[0][0] + feast.lines[1][0] + feast.lines[2][0] + feast.lines[3][0];
        for (int number = 0; number < singers.size(); number++) {
            if (feast.lineup[number] >= 0) {
                Singer singer = singers.get(number);
                singer.feasts++;
                collected += feast.rank;
                purse += feast.rank;
                fees += singer.choir >= 0 ? singer.fee : 0;
                purse -= singer.choir >= 0 ? singer.fee : 0;
                open--;
            }
        }
        fines += open * feast.rank;
        purse -= open * feast.rank;
    }

    // ---- how a feast is sung today

    private static boolean isExcused(Singer singer, int day) {
        for (int[] note : singer.notes) {
            if (in(day, note[0], note[1])) {
                return true;
            }
        }
        return false;
    }

    private int reasonToday(Singer singer, int[] line) {
        if (singer.hasLeft) {
            return 1;
        }
        if (singer.awayUntil >= day) {
            return 2;
        }
        if (isExcused(singer, day)) {
            return 3;
        }
        if (singer.breaksOn >= 0 && in(day, singer.breaksOn, singer.breaksOn + 89)) {
            return 4;
        }
        if (line[1] < singer.low(day)) {
            return 5;
        }
        return line[2] > singer.high(day) ? 6 : 0;
    }

    private boolean[][] able(Feast feast) {
        boolean[][] able = new boolean[singers.size()][4];
        for (int number = 0; number < singers.size(); number++) {
            for (int line = 0; line < 4; line++) {
                able[number][line] = reasonToday(singers.get(number), feast.lines[line]) == 0;
            }
        }
        return able;
    }

    private int[] lineup(Feast feast) {
        boolean[][] able = able(feast);
        int[] open = feast.places();
        int most = mostFilled(able, open, 0);
        int told = 0;
        int[] lineup = new int[singers.size()];
        for (int number = 0; number < lineup.length; number++) {
            lineup[number] = -1;
            for (int line = 0; line < 4 && lineup[number] < 0; line++) {
                if (able[number][line] && open[line] > 0) {
                    open[line]--;
                    if (told + 1 + mostFilled(able, open, number + 1) == most) {
                        lineup[number] = line;
                        told++;
                    } else {
                        open[line]++;
                    }
                }
            }
        }
        return lineup;
    }

    /** The most places that can be filled by the singers from one number on; each place looks for a singer. */
    private static int mostFilled(boolean[][] able, int[] open, int from) {
        int[] lineOf = new int[able.length];
        java.util.Arrays.fill(lineOf, -1);
        int filled = 0;
        for (int line = 0; line < 4; line++) {
            for (int place = 0; place < open[line]; place++) {
                filled += findSinger(able, lineOf, from, line, new boolean[able.length]) ? 1 : 0;
            }
        }
        return filled;
    }

    private static boolean findSinger(boolean[][] able, int[] lineOf, int from, int line, boolean[] asked) {
        for (int number = from; number < able.length; number++) {
            if (able[number][line] && !asked[number] && lineOf[number] != line) {
                asked[number] = true;
                if (lineOf[number] < 0 || findSinger(able, lineOf, from, lineOf[number], asked)) {
                    lineOf[number] = line;
                    return true;
                }
            }
        }
        return false;
    }

    private int descant(int[] lineup) {
        int best = -1;
        for (int number = 0; number < lineup.length; number++) {
            if (lineup[number] == 0 && (best < 0 || ranksBefore(singers.get(number), singers.get(best)))) {
                best = number;
            }
        }
        return best;
    }

    private boolean ranksBefore(Singer singer, Singer other) {
        if (singer.descants != other.descants) {
            return singer.descants < other.descants;
        }
        return day - singer.bornOn > day - other.bornOn;
    }

    // ---- questions

    /** The register on the day of a feast: itself, or a copy in which nothing but time has passed. */
    private PlainChoir onDayOf(Feast feast) {
        PlainChoir then = this;
        if (!feast.held) {
            then = copy();
            while (then.day < feast.day) {
                then.passDay();
            }
        }
        return then;
    }

    private Feast sung(int number) {
        return onDayOf(feast(number)).feasts.get(number);
    }

    int nextToBreak() {
        int next = -1;
        for (int number = 0; number < singers.size(); number++) {
            Singer singer = singers.get(number);
            if (!singer.hasLeft && singer.breaksOn > day
                    && (next < 0 || singer.breaksOn < singers.get(next).breaksOn)) {
                next = number;
            }
        }
        return next;
    }

    int awayUntil(int number) {
        Singer singer = singer(number);
        return singer.awayUntil >= day ? singer.awayUntil : -1;
    }

    boolean isExcused(int number, int onDay) {
        Singer singer = singer(number);
        argument(in(onDay, 0, 9999));
        return isExcused(singer, onDay);
    }

    int placesIn(int number, int line) {
        Feast feast = feast(number);
        index(line, 4);
        return feast.lines[line][0];
    }

    int whyNot(int number, int singer, int line) {
        Feast feast = feast(number);
        singer(singer);
        index(line, 4);
        state(!feast.held);
        PlainChoir then = onDayOf(feast);
        return then.reasonToday(then.singers.get(singer), feast.lines[line]);
    }

    int lineOf(int number, int singer) {
        feast(number);
        singer(singer);
        int[] lineup = sung(number).lineup;
        return singer < lineup.length ? lineup[singer] : -1;
    }

    int singersIn(int number, int line) {
        feast(number);
        index(line, 4);
        int count = 0;
        for (int told : sung(number).lineup) {
            count += told == line ? 1 : 0;
        }
        return count;
    }

    int shortfall(int number) {
        Feast feast = sung(number);
        int open = 0;
        for (int line = 0; line < 4; line++) {
            open += feast.lines[line][0] - singersIn(number, line);
        }
        return open;
    }

    int shortfallBySets(int number) {
        state(!feast(number).held);
        return shortfall(number);
    }

    int neededLine(int number) {
        state(!feast(number).held);
        int shortfall = shortfall(number);
        for (int line = 0; line < 4; line++) {
            PlainChoir without = copy();
            if (feast(number).lines[line][0] > 0) {
                without.feasts.get(number).lines[line][0]--;
                if (without.shortfall(number) < shortfall) {
                    return line;
                }
            }
        }
        return -1;
    }

    int descantIn(int number) {
        return sung(number).descant;
    }

    private int rank(int number, int singer) {
        int line = lineOf(number, singer);
        if (line < 0) {
            return -1;
        }
        List<Integer> row = new ArrayList<>();
        int[] lineup = sung(number).lineup;
        for (int other = 0; other < lineup.length; other++) {
            if (lineup[other] == line) {
                row.add(other);
            }
        }
        row.sort((a, b) -> singers.get(a).height - singers.get(b).height);
        return row.indexOf(singer);
    }

    int pewOf(int number, int singer) {
        int rank = rank(number, singer);
        return rank < 0 ? -1 : rank / 2;
    }

    int seatOf(int number, int singer) {
        int rank = rank(number, singer);
        return rank < 0 ? -1 : rank % 2;
    }

    int firstShortFeast() {
        int first = -1;
        for (int number = 0; number < feasts.size(); number++) {
            Feast feast = feasts.get(number);
            if (!feast.held && shortfall(number) > 0 && (first < 0 || feast.day < feasts.get(first).day)) {
                first = number;
            }
        }
        return first;
    }
}
