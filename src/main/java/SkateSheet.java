/** Dancing judged side by side. Sets of couples, judges or positions are told as the sum of 2^number. */
public final class SkateSheet {

    private static final int NONE = -1;
    private static final int CLUBS = 6;
    private static final int MOST_COUPLES = 10;
    private static final int MOST_JUDGES = 7;
    private static final int SETS_OF_JUDGES = 128;
    // No set has more: couples, judges, clubs, positions and marks are all below 10.
    private static final int MOST_MEMBERS = 10;
    private static final int MOST_DANCES = 5;
    private static final int LEAST_ENTERED = 3;
    private static final int LEAST_PANEL = 3;
    private static final int LEAST_QUOTA = 2;
    private static final int LEAST_SIZE = 2;
    private static final int MOST_SIZE = 6;
    private static final int MOST_HEATS = 5;
    private static final int MOST_IN_FINAL = 8;

    private static final int EVENTS_THAT_COUNT = 5;
    private static final int STANDING_FOR_A_LEVEL = 60;
    private static final int MOST_LEVEL = 3;

    // Greater than any sum of marks or of places in halves, so that one more of them outweighs every sum.
    private static final int ONE_MORE = 1000;

    // The reasons of a place in a dance.
    private static final int ALONE = 0;
    private static final int BY_NUMBER = 1;
    private static final int BY_SUM = 2;
    private static final int BY_LATER_MARKS = 3;
    private static final int SHARED = 4;
    private static final int PENALISED = 5;

    // The reasons of a place over all dances.
    private static final int OWN_TOTAL = 9;
    private static final int RULE_10 = 10;
    private static final int RULE_11 = 11;
    private static final int SHARED_OVER_ALL = 12;

    private static final int DIGEST_START = 9107;
    private static final int DIGEST_FACTOR = 31;

    private final Couples allCouples = new Couples();
    private final Judges allJudges = new Judges();
    private final Event event = new Event();
    private final Round latest = new Round();
    private final Sheets sheets = new Sheets();
    private final Score score = new Score();
    private final Score trial = new Score();
    private boolean inFinal;
    private int closedEvents;

    public SkateSheet() {
    }

    // ---- what is told

    public int couple(int club) throws IllegalArgumentException, IllegalStateException {
        needClub(club);
        if (allCouples.count >= MOST_COUPLES) {
            throw new IllegalStateException("there are 10 couples");
        }
        return allCouples.enrol(club);
    }

    public int judge(int club) throws IllegalArgumentException, IllegalStateException {
        needClub(club);
        if (allJudges.count >= MOST_JUDGES || event.isOpen) {
            throw new IllegalStateException("there are 7 judges, or an event is open");
        }
        return allJudges.enrol(club);
    }

    public int open(int couples, int dances) throws IllegalArgumentException, IllegalStateException {
        if (!allCouples.haveAll(couples) || Integer.bitCount(couples) < LEAST_ENTERED) {
            throw new IllegalArgumentException("these are not three couples or more");
        }
        if (dances < 1 || dances > MOST_DANCES) {
            throw new IllegalArgumentException("dances are 1 to 5");
        }
        int panel = allJudges.panelBeside(allCouples.clubsOf(couples));
        if (event.isOpen || Integer.bitCount(panel) < LEAST_PANEL) {
            throw new IllegalStateException("an event is open, or too few judges are free");
        }
        event.start(couples, panel, dances);
        return Integer.bitCount(panel);
    }

    // ---- rounds

    public int round(int quota, int size) throws IllegalArgumentException, IllegalStateException {
        if (quota < LEAST_QUOTA || size < LEAST_SIZE || size > MOST_SIZE) {
            throw new IllegalArgumentException("a quota is 2 at least, a size 2 to 6");
        }
        if (!event.isOpen || inFinal || latest.isRunning || quota >= Integer.bitCount(event.inside)) {
            throw new IllegalStateException("no round can begin, or not with this quota");
        }
        event.rounds++;
        latest.start(quota, size);
        return event.rounds;
    }

    public int dance() throws IllegalStateException {
        if (!latest.isRunning || latest.danced >= event.dances) {
            throw new IllegalStateException("no dance is left in a round");
        }
        return latest.danceHeats(event.inside, allCouples);
    }

    public int cross(int judge, int dance, int couples) throws IndexOutOfBoundsException, IllegalArgumentException {
        if (!latest.isRunning || !holds(event.panel, judge) || dance < 0 || dance >= latest.danced) {
            throw new IndexOutOfBoundsException("no such judge or dance in a round");
        }
        if ((couples & ~event.inside) != 0 || Integer.bitCount(couples) != latest.quota) {
            throw new IllegalArgumentException("crosses go to as many as the quota, all of them in");
        }
        latest.crosses.set(judge, dance, couples);
        return latest.crossesIn(dance, couples);
    }

    public int cut() throws IllegalStateException {
        if (!latest.isRunning || latest.danced < event.dances) {
            throw new IllegalStateException("no round was danced to its end");
        }
        int goOn = latest.choose(event.inside);
        event.keepOnly(goOn);
        latest.stop();
        return Integer.bitCount(goOn);
    }

    // ---- a final

    public int begin() throws IllegalStateException {
        int size = Integer.bitCount(event.inside);
        if (!event.isOpen || inFinal || latest.isRunning || size > MOST_IN_FINAL) {
            throw new IllegalStateException("no final can begin");
        }
        inFinal = true;
        sheets.clear(size, event.dances);
        score.settle(sheets, 0);
        return size;
    }

    public int sheet(int judge, int dance, int marks) throws IndexOutOfBoundsException, IllegalArgumentException {
        if (!inFinal || !holds(event.panel, judge)) {
            throw new IndexOutOfBoundsException("no such judge in a final");
        }
        needDance(dance);
        if (!sheets.areMarks(marks)) {
            throw new IllegalArgumentException("marks are 1 to n, each once");
        }
        sheets.write(judge, dance, marks);
        score.settle(sheets, 0);
        return sheets.ofDance(dance);
    }

    public int lose(int judge, int dance) throws IndexOutOfBoundsException {
        needSheet(judge, dance);
        sheets.erase(judge, dance);
        score.settle(sheets, 0);
        return sheets.ofDance(dance);
    }

    public boolean penalise(int couple, int dance, boolean is) throws IndexOutOfBoundsException {
        needInFinal(couple);
        needDance(dance);
        int position = event.positionOf(couple);
        boolean was = sheets.isPenalised(position, dance);
        sheets.setPenalised(position, dance, is);
        score.settle(sheets, 0);
        return was;
    }

    public int close() throws IllegalStateException {
        if (!inFinal) {
            throw new IllegalStateException("no final has begun");
        }
        addDrifts();
        givePoints();
        allCouples.raiseLevels(event.entered);
        inFinal = false;
        sheets.clear(0, 0);
        latest.forget();
        event.stop();
        closedEvents++;
        return closedEvents - 1;
    }

    // ---- what one asks

    public int ofCouple(int couple, int what) throws IndexOutOfBoundsException, IllegalArgumentException {
        needCouple(couple);
        switch (what) {
            case 0:
                return allCouples.clubs.get(couple);
            case 1:
                return allCouples.levels.get(couple);
            case 2:
                return allCouples.standingOf(couple);
            case 3:
                return holds(event.entered, couple) ? 1 : 0;
            case 4:
                return holds(event.inside, couple) ? 1 : 0;
            case 5:
                return event.outIn.get(couple);
            case 6:
                return latest.crossesOf(couple);
            case 7:
                return latest.heatOf.get(couple);
            default:
                throw new IllegalArgumentException("what is 0 to 7");
        }
    }

    public int meetings(int one, int other) throws IndexOutOfBoundsException {
        needCouple(one);
        needCouple(other);
        return allCouples.met.get(one, other);
    }

    public int ofJudge(int judge, int what) throws IndexOutOfBoundsException, IllegalArgumentException {
        if (judge < 0 || judge >= allJudges.count) {
            throw new IndexOutOfBoundsException("no such judge");
        }
        switch (what) {
            case 0:
                return allJudges.clubs.get(judge);
            case 1:
                return holds(event.panel, judge) ? 1 : 0;
            case 2:
                return allJudges.drifts.get(judge);
            case 3:
                return sheets.ofOneJudge(judge);
            default:
                throw new IllegalArgumentException("what is 0 to 3");
        }
    }

    public int votes(int couple, int dance, int p) throws IndexOutOfBoundsException, IllegalArgumentException {
        needInFinal(couple);
        needDance(dance);
        if (p < 1 || p > sheets.size) {
            throw new IllegalArgumentException("no such place");
        }
        return score.marksOfOrBetter(dance, event.positionOf(couple), p);
    }

    public int placed(int couple, int dance, int what) throws IndexOutOfBoundsException, IllegalArgumentException {
        needInFinal(couple);
        needDance(dance);
        int position = event.positionOf(couple);
        switch (what) {
            case 0:
                return score.places.get(dance, position);
            case 1:
                return score.reasons.get(dance, position);
            default:
                throw new IllegalArgumentException("what is 0 or 1");
        }
    }

    public int result(int couple, int what) throws IndexOutOfBoundsException, IllegalArgumentException {
        needInFinal(couple);
        int position = event.positionOf(couple);
        switch (what) {
            case 0:
                return score.endPlaces.get(position);
            case 1:
                return score.endReasons.get(position);
            case 2:
                return score.totals.get(position);
            default:
                throw new IllegalArgumentException("what is 0 to 2");
        }
    }

    public int many(int what) throws IllegalArgumentException {
        switch (what) {
            case 0:
                return allCouples.count;
            case 1:
                return allJudges.count;
            case 2:
                return closedEvents;
            case 3:
                return event.isOpen ? 1 : 0;
            case 4:
                return inFinal ? 1 : 0;
            case 5:
                return event.rounds;
            case 6:
                return event.dances;
            case 7:
                return latest.danced;
            case 8:
                return event.inside;
            case 9:
                return Integer.bitCount(event.panel);
            case 10:
                return sheets.ofAll();
            default:
                throw new IllegalArgumentException("what is 0 to 10");
        }
    }

    public double meanStanding() {
        int sum = 0;
        for (int couple = 0; couple < allCouples.count; couple++) {
            sum += allCouples.standingOf(couple);
        }
        return allCouples.count > 0 ? (double) sum / allCouples.count : 0;
    }

    // ---- what would be (nothing is changed)

    public int exchanged(int judge, int dance, int one, int other, int couple) throws IndexOutOfBoundsException {
        needSheet(judge, dance);
        needInFinal(one);
        needInFinal(other);
        needInFinal(couple);
        tryExchange(judge, dance, event.positionOf(one), event.positionOf(other));
        return trial.endPlaces.get(event.positionOf(couple));
    }

    public int bestExchange(int judge, int dance, int couple) throws IndexOutOfBoundsException {
        needSheet(judge, dance);
        needInFinal(couple);
        int position = event.positionOf(couple);
        int least = score.endPlaces.get(position);
        int best = NONE;
        for (int one = 0; one < sheets.size; one++) {
            for (int other = one + 1; other < sheets.size; other++) {
                tryExchange(judge, dance, one, other);
                int place = trial.endPlaces.get(position);
                if (place < least) {
                    least = place;
                    best = 10 * event.memberAt(one) + event.memberAt(other);
                }
            }
        }
        return best;
    }

    public int without(int judges, int couple) throws IndexOutOfBoundsException, IllegalArgumentException {
        needInFinal(couple);
        if (judges < 0 || judges >= SETS_OF_JUDGES) {
            throw new IllegalArgumentException("judges are a set of 0 to 127");
        }
        trial.settle(sheets, judges);
        return trial.endPlaces.get(event.positionOf(couple));
    }

    public int fragile() {
        if (!inFinal) {
            return NONE;
        }
        int winners = score.winners();
        int judges = Integer.bitCount(event.panel);
        for (int number = 1; number < judges; number++) {
            for (int set = 1; set < SETS_OF_JUDGES; set++) {
                if ((set & ~event.panel) == 0 && Integer.bitCount(set) == number) {
                    trial.settle(sheets, set);
                    if (trial.winners() != winners) {
                        return number;
                    }
                }
            }
        }
        return NONE;
    }

    public long digest() {
        long d = DIGEST_START;
        for (int what = 0; what <= 10; what++) {
            d = d * DIGEST_FACTOR + many(what);
        }
        for (int couple = 0; couple < allCouples.count; couple++) {
            d = digestCouple(d, couple);
        }
        for (int judge = 0; judge < allJudges.count; judge++) {
            for (int what = 0; what <= 3; what++) {
                d = d * DIGEST_FACTOR + ofJudge(judge, what);
            }
        }
        return d * DIGEST_FACTOR + fragile();
    }

    private long digestCouple(long before, int couple) {
        long d = before;
        for (int what = 0; what <= 7; what++) {
            d = d * DIGEST_FACTOR + ofCouple(couple, what);
        }
        d = d * DIGEST_FACTOR + meetings(couple, 0);
        return inFinal && holds(event.inside, couple) ? digestFinalist(d, couple) : d;
    }

    private long digestFinalist(long before, int couple) {
        long d = before;
        for (int what = 0; what <= 2; what++) {
            d = d * DIGEST_FACTOR + result(couple, what);
        }
        for (int dance = 0; dance < event.dances; dance++) {
            d = d * DIGEST_FACTOR + placed(couple, dance, 0);
            d = d * DIGEST_FACTOR + placed(couple, dance, 1);
            d = d * DIGEST_FACTOR + votes(couple, dance, 1);
        }
        return d;
    }

    private static void needClub(int club) {
        if (club < 0 || club >= CLUBS) {
            throw new IllegalArgumentException("a club is 0 to 5");
        }
    }

    private void needCouple(int couple) {
        if (couple < 0 || couple >= allCouples.count) {
            throw new IndexOutOfBoundsException("no such couple");
        }
    }

    private void needInFinal(int couple) {
        if (!inFinal || !holds(event.inside, couple)) {
            throw new IndexOutOfBoundsException("no such couple in a final");
        }
    }

    private void needDance(int dance) {
        if (dance < 0 || dance >= event.dances) {
            throw new IndexOutOfBoundsException("no such dance");
        }
    }

    private void needSheet(int judge, int dance) {
        if (!inFinal || !sheets.has(judge, dance)) {
            throw new IndexOutOfBoundsException("no such sheet in a final");
        }
    }

    // Exchanging twice leaves the sheet as it was, and needs no copy of the sheets.
    private void tryExchange(int judge, int dance, int one, int other) {
        sheets.exchange(judge, dance, one, other);
        trial.settle(sheets, 0);
        sheets.exchange(judge, dance, one, other);
    }

    private void addDrifts() {
        for (int judge = 0; judge < allJudges.count; judge++) {
            for (int dance = 0; dance < event.dances; dance++) {
                if (sheets.has(judge, dance)) {
                    allJudges.drifts.add(judge, score.driftOf(sheets, judge, dance));
                }
            }
        }
    }

    private void givePoints() {
        allCouples.agePoints();
        int most = 2 * Integer.bitCount(event.entered) + 2;
        for (int couple = 0; couple < allCouples.count; couple++) {
            if (holds(event.inside, couple)) {
                allCouples.points.set(couple, 0, most - score.endPlaces.get(event.positionOf(couple)));
            } else if (holds(event.entered, couple)) {
                allCouples.points.set(couple, 0, event.outIn.get(couple) - 1);
            }
        }
    }

    // A shift takes only the last bits of a number, so a member that no set can have is refused first.
    private static boolean holds(int set, int member) {
        return member >= 0 && member < MOST_MEMBERS && (set >> member & 1) == 1;
    }

    // The mean of the places from first on that so many share, in halves.
    private static int inHalves(int first, int sharing) {
        return 2 * first + sharing - 1;
    }

    /** Numbers in a row; what is outside of it reads 0 and takes nothing, so that no index can fail. */
    private static final class Row {
        private final int[] cells;

        Row(int length) {
            cells = new int[length > 0 ? length : 0];
        }

        int get(int at) {
            return at >= 0 && at < cells.length ? cells[at] : 0;
        }

        void set(int at, int value) {
            if (at >= 0 && at < cells.length) {
                cells[at] = value;
            }
        }

        void add(int at, int more) {
            if (at >= 0 && at < cells.length) {
                cells[at] += more;
            }
        }

        void fill(int value) {
            for (int at = 0; at < cells.length; at++) {
                cells[at] = value;
            }
        }
    }

    /** Numbers in rows and columns; what is outside reads 0 and takes nothing, as in a Row. */
    private static final class Grid {
        private final int columns;
        private final int[] cells;

        Grid(int rows, int columns) {
            int length = rows * columns;
            this.columns = columns;
            this.cells = new int[length > 0 ? length : 0];
        }

        // A column that is none would be a cell of another row.
        int get(int row, int column) {
            int at = column >= 0 && column < columns ? row * columns + column : NONE;
            return at >= 0 && at < cells.length ? cells[at] : 0;
        }

        void set(int row, int column, int value) {
            int at = column >= 0 && column < columns ? row * columns + column : NONE;
            if (at >= 0 && at < cells.length) {
                cells[at] = value;
            }
        }

        void add(int row, int column, int more) {
            int at = column >= 0 && column < columns ? row * columns + column : NONE;
            if (at >= 0 && at < cells.length) {
                cells[at] += more;
            }
        }

        void fill(int value) {
            for (int at = 0; at < cells.length; at++) {
                cells[at] = value;
            }
        }
    }

    /** The couples, what they have met and what they have won. */
    private static final class Couples {
        int count;
        final Row clubs = new Row(MOST_COUPLES);
        final Row levels = new Row(MOST_COUPLES);
        final Grid met = new Grid(MOST_COUPLES, MOST_COUPLES);
        /** By couple and age: how many events were closed behind the one that gave them. */
        final Grid points = new Grid(MOST_COUPLES, EVENTS_THAT_COUNT);

        int enrol(int club) {
            clubs.set(count, club);
            count++;
            return count - 1;
        }

        boolean haveAll(int set) {
            return (set & ~((1 << count) - 1)) == 0;
        }

        int clubsOf(int set) {
            int found = 0;
            for (int couple = 0; couple < count; couple++) {
                if (holds(set, couple)) {
                    found |= 1 << clubs.get(couple);
                }
            }
            return found;
        }

        int metWithAll(int couple, int set) {
            int sum = 0;
            for (int other = 0; other < count; other++) {
                if (holds(set, other)) {
                    sum += met.get(couple, other);
                }
            }
            return sum;
        }

        void meetEachOther(int set) {
            for (int one = 0; one < count; one++) {
                for (int other = 0; other < count; other++) {
                    if (one != other && holds(set, one) && holds(set, other)) {
                        met.add(one, other, 1);
                    }
                }
            }
        }

        void agePoints() {
            for (int couple = 0; couple < MOST_COUPLES; couple++) {
                for (int age = EVENTS_THAT_COUNT - 1; age > 0; age--) {
                    points.set(couple, age, points.get(couple, age - 1));
                }
                points.set(couple, 0, 0);
            }
        }

        int standingOf(int couple) {
            int first = 0;
            int second = 0;
            int third = 0;
            for (int age = 0; age < EVENTS_THAT_COUNT; age++) {
                int worth = points.get(couple, age) * (EVENTS_THAT_COUNT - age);
                if (worth > first) {
                    third = second;
                    second = first;
                    first = worth;
                } else if (worth > second) {
                    third = second;
                    second = worth;
                } else if (worth > third) {
                    third = worth;
                }
            }
            return first + second + third;
        }

        void raiseLevels(int entered) {
            for (int couple = 0; couple < count; couple++) {
                if (holds(entered, couple) && standingOf(couple) >= STANDING_FOR_A_LEVEL) {
                    levels.set(couple, Math.min(levels.get(couple) + 1, MOST_LEVEL));
                }
            }
        }
    }

    /** The judges and how they drift. */
    private static final class Judges {
        int count;
        final Row clubs = new Row(MOST_JUDGES);
        final Row drifts = new Row(MOST_JUDGES);

        int enrol(int club) {
            clubs.set(count, club);
            count++;
            return count - 1;
        }

        int panelBeside(int clubsOfCouples) {
            int panel = 0;
            int greatest = 0;
            for (int judge = 0; judge < count; judge++) {
                if (!holds(clubsOfCouples, clubs.get(judge))) {
                    greatest = 1 << judge;
                    panel |= greatest;
                }
            }
            return Integer.bitCount(panel) % 2 == 0 ? panel & ~greatest : panel;
        }
    }

    /** The event that is open; without one it holds nothing but zeros. */
    private static final class Event {
        boolean isOpen;
        int entered;
        int inside;
        int panel;
        int dances;
        int rounds;
        final Row outIn = new Row(MOST_COUPLES);

        void start(int couples, int judges, int howMany) {
            isOpen = true;
            entered = couples;
            inside = couples;
            panel = judges;
            dances = howMany;
            rounds = 0;
            outIn.fill(0);
        }

        void stop() {
            start(0, 0, 0);
            isOpen = false;
        }

        void keepOnly(int goOn) {
            for (int couple = 0; couple < MOST_COUPLES; couple++) {
                if (holds(inside, couple) && !holds(goOn, couple)) {
                    outIn.set(couple, rounds);
                }
            }
            inside = goOn;
        }

        /** Which one of those that are in this couple is, from 0. */
        int positionOf(int couple) {
            return Integer.bitCount(inside & ((1 << couple) - 1));
        }

        int memberAt(int position) {
            for (int couple = 0; couple < MOST_COUPLES; couple++) {
                if (holds(inside, couple) && positionOf(couple) == position) {
                    return couple;
                }
            }
            return NONE;
        }
    }

    /** The latest round of the event; when it is cut, its crosses and heats stay, as one can ask for them. */
    private static final class Round {
        boolean isRunning;
        int quota;
        int danced;
        private int size;
        /** By judge and dance: the set of those that have a cross. */
        final Grid crosses = new Grid(MOST_JUDGES, MOST_DANCES);
        final Row heatOf = new Row(MOST_COUPLES);
        private final Row heats = new Row(MOST_HEATS);

        // Before the first event is opened no couple has a heat either.
        Round() {
            heatOf.fill(NONE);
        }

        void forget() {
            crosses.fill(0);
            heatOf.fill(NONE);
        }

        void start(int newQuota, int newSize) {
            forget();
            isRunning = true;
            quota = newQuota;
            size = newSize;
        }

        void stop() {
            isRunning = false;
            danced = 0;
        }

        int danceHeats(int inside, Couples couples) {
            int needed = size > 0 ? (Integer.bitCount(inside) + size - 1) / size : 0;
            heats.fill(0);
            for (int couple = 0; couple < MOST_COUPLES; couple++) {
                if (holds(inside, couple)) {
                    int heat = heatFor(couple, needed, couples);
                    heatOf.set(couple, heat);
                    heats.add(heat, 1 << couple);
                }
            }
            for (int heat = 0; heat < needed; heat++) {
                couples.meetEachOther(heats.get(heat));
            }
            danced++;
            return needed;
        }

        private int heatFor(int couple, int needed, Couples couples) {
            int best = NONE;
            int least = 0;
            for (int heat = 0; heat < needed; heat++) {
                int dancers = heats.get(heat);
                int sum = couples.metWithAll(couple, dancers);
                if (Integer.bitCount(dancers) < size && (best == NONE || sum < least)) {
                    best = heat;
                    least = sum;
                }
            }
            return best;
        }

        int crossesIn(int dance, int couples) {
            int sum = 0;
            for (int judge = 0; judge < MOST_JUDGES; judge++) {
                sum += Integer.bitCount(crosses.get(judge, dance) & couples);
            }
            return sum;
        }

        int crossesOf(int couple) {
            int sum = 0;
            for (int dance = 0; dance < MOST_DANCES; dance++) {
                sum += crossesIn(dance, 1 << couple);
            }
            return sum;
        }

        int choose(int inside) {
            int goOn = 0;
            for (int couple = 0; couple < MOST_COUPLES; couple++) {
                if (holds(inside, couple) && withMoreCrosses(couple, inside) < quota) {
                    goOn |= 1 << couple;
                }
            }
            return goOn;
        }

        private int withMoreCrosses(int couple, int inside) {
            int own = crossesOf(couple);
            int number = 0;
            for (int other = 0; other < MOST_COUPLES; other++) {
                if (holds(inside, other) && crossesOf(other) > own) {
                    number++;
                }
            }
            return number;
        }
    }

    /** The sheets and the penalties of the final, by the positions of those that are in. */
    private static final class Sheets {
        int size;
        int dances;
        /** By judge and dance in its rows; a row of zeros is no sheet, as a mark is 1 at least. */
        private final Grid marks = new Grid(MOST_JUDGES * MOST_DANCES, MOST_IN_FINAL);
        private final Row penalised = new Row(MOST_DANCES);

        void clear(int howMany, int ofDances) {
            size = howMany;
            dances = ofDances;
            marks.fill(0);
            penalised.fill(0);
        }

        boolean areMarks(int told) {
            int rest = told;
            int seen = 0;
            for (int position = 0; position < size; position++) {
                int mark = rest % 10;
                if (mark < 1 || mark > size || holds(seen, mark)) {
                    return false;
                }
                seen |= 1 << mark;
                rest /= 10;
            }
            return rest == 0;
        }

        void write(int judge, int dance, int told) {
            int rest = told;
            for (int position = 0; position < size; position++) {
                marks.set(judge * MOST_DANCES + dance, position, rest % 10);
                rest /= 10;
            }
        }

        void erase(int judge, int dance) {
            write(judge, dance, 0);
        }

        boolean has(int judge, int dance) {
            return judge >= 0 && judge < MOST_JUDGES && dance >= 0 && dance < MOST_DANCES
                    && mark(judge, dance, 0) != 0;
        }

        int mark(int judge, int dance, int position) {
            return marks.get(judge * MOST_DANCES + dance, position);
        }

        void exchange(int judge, int dance, int one, int other) {
            int kept = mark(judge, dance, one);
            marks.set(judge * MOST_DANCES + dance, one, mark(judge, dance, other));
            marks.set(judge * MOST_DANCES + dance, other, kept);
        }

        boolean isPenalised(int position, int dance) {
            return holds(penalised.get(dance), position);
        }

        void setPenalised(int position, int dance, boolean is) {
            int others = penalised.get(dance) & ~(1 << position);
            penalised.set(dance, is ? others | 1 << position : others);
        }

        int ofDance(int dance) {
            int number = 0;
            for (int judge = 0; judge < MOST_JUDGES; judge++) {
                if (has(judge, dance)) {
                    number++;
                }
            }
            return number;
        }

        int ofOneJudge(int judge) {
            int number = 0;
            for (int dance = 0; dance < dances; dance++) {
                if (has(judge, dance)) {
                    number++;
                }
            }
            return number;
        }

        int ofAll() {
            int number = 0;
            for (int dance = 0; dance < dances; dance++) {
                number += ofDance(dance);
            }
            return number;
        }
    }

    /** For each of its rows, and each p: how many marks of p or better, and how far these bring ahead. */
    private static final class Tally {
        private int worst;
        private final Grid numbers;
        /** More marks weigh more, and of as many marks those with the smaller sum. */
        private final Grid weights;

        Tally(int rows) {
            numbers = new Grid(rows, MOST_IN_FINAL + 1);
            weights = new Grid(rows, MOST_IN_FINAL + 1);
        }

        void clear(int worstMark) {
            worst = worstMark;
            numbers.fill(0);
        }

        /** Until sumUp a number is that of the marks of just p. */
        void count(int row, int mark) {
            numbers.add(row, mark, 1);
        }

        void sumUp(int row) {
            int number = 0;
            int weight = 0;
            for (int p = 1; p <= worst; p++) {
                int marks = numbers.get(row, p);
                number += marks;
                weight += marks * (ONE_MORE - p);
                numbers.set(row, p, number);
                weights.set(row, p, weight);
            }
        }

        int number(int row, int p) {
            return numbers.get(row, p);
        }

        int weight(int row, int p) {
            return weights.get(row, p);
        }

        /** Less than 0 if one is ahead of the other by its marks of p or better, of p and 1 or better, and so on. */
        int compare(int one, int other, int from) {
            for (int p = from; p <= worst; p++) {
                int order = weights.get(other, p) - weights.get(one, p);
                if (order != 0) {
                    return order;
                }
            }
            return 0;
        }
    }

    /** Who is where in each dance and over all, by the sheets that count. */
    private static final class Score {
        private int size;
        private int dances;
        final Grid places = new Grid(MOST_DANCES, MOST_IN_FINAL);
        final Grid reasons = new Grid(MOST_DANCES, MOST_IN_FINAL);
        final Row totals = new Row(MOST_IN_FINAL);
        final Row endPlaces = new Row(MOST_IN_FINAL);
        final Row endReasons = new Row(MOST_IN_FINAL);
        private final Tally marks = new Tally(MOST_DANCES * MOST_IN_FINAL);
        private final Row sheetsOf = new Row(MOST_DANCES);
        /** By position: the p at which it is a candidate. */
        private final Row turns = new Row(MOST_IN_FINAL);
        private final Row weights = new Row(MOST_IN_FINAL);

        /** Places all, as if the sheets of these judges were lost. */
        void settle(Sheets sheets, int withoutJudges) {
            size = sheets.size;
            dances = sheets.dances;
            marks.clear(size);
            sheetsOf.fill(0);
            for (int judge = 0; judge < MOST_JUDGES; judge++) {
                if (!holds(withoutJudges, judge)) {
                    countMarksOf(judge, sheets);
                }
            }
            for (int dance = 0; dance < dances; dance++) {
                placeInDance(dance, sheets);
            }
            addPlaces();
            placeOverAll();
        }

        int marksOfOrBetter(int dance, int position, int p) {
            return marks.number(rowOf(dance, position), p);
        }

        /** The set of the positions of those with the smallest place over all dances. */
        int winners() {
            int least = 2 * MOST_IN_FINAL;
            for (int position = 0; position < size; position++) {
                least = Math.min(least, endPlaces.get(position));
            }
            int found = 0;
            for (int position = 0; position < size; position++) {
                if (endPlaces.get(position) == least) {
                    found |= 1 << position;
                }
            }
            return found;
        }

        int driftOf(Sheets sheets, int judge, int dance) {
            int drift = 0;
            for (int position = 0; position < size; position++) {
                drift += Math.abs(2 * sheets.mark(judge, dance, position) - places.get(dance, position));
            }
            return drift;
        }

        private static int rowOf(int dance, int position) {
            return dance * MOST_IN_FINAL + position;
        }

        private void countMarksOf(int judge, Sheets sheets) {
            for (int dance = 0; dance < dances; dance++) {
                if (sheets.has(judge, dance)) {
                    sheetsOf.add(dance, 1);
                    for (int position = 0; position < size; position++) {
                        marks.count(rowOf(dance, position), sheets.mark(judge, dance, position));
                    }
                }
            }
        }

        private void placeInDance(int dance, Sheets sheets) {
            for (int position = 0; position < size; position++) {
                marks.sumUp(rowOf(dance, position));
                turns.set(position, turnOf(dance, position, sheets.isPenalised(position, dance)));
            }
            for (int position = 0; position < size; position++) {
                int ahead = 0;
                int alike = 0;
                for (int other = 0; other < size; other++) {
                    int order = compareInDance(dance, other, position);
                    ahead += order < 0 ? 1 : 0;
                    alike += order == 0 ? 1 : 0;
                }
                places.set(dance, position, inHalves(ahead + 1, alike));
                int reason = alike > 1 ? SHARED : reasonAmongCandidates(dance, position);
                reasons.set(dance, position, sheets.isPenalised(position, dance) ? PENALISED : reason);
            }
        }

        // Behind the worst mark no marks are left to compare: so the penalised share the last places, and without a
        // sheet all share all of them.
        private int turnOf(int dance, int position, boolean isPenalised) {
            int majority = sheetsOf.get(dance) / 2 + 1;
            for (int p = 1; p <= size && !isPenalised; p++) {
                if (marks.number(rowOf(dance, position), p) >= majority) {
                    return p;
                }
            }
            return size + 1;
        }

        private int compareInDance(int dance, int one, int other) {
            int turn = turns.get(one);
            int order = turn - turns.get(other);
            return order != 0 ? order : marks.compare(rowOf(dance, one), rowOf(dance, other), turn);
        }

        private int reasonAmongCandidates(int dance, int position) {
            int p = turns.get(position);
            int row = rowOf(dance, position);
            int reason = ALONE;
            for (int other = 0; other < size; other++) {
                int otherRow = rowOf(dance, other);
                if (other == position || turns.get(other) != p) {
                    continue;
                }
                if (marks.weight(otherRow, p) == marks.weight(row, p)) {
                    reason = BY_LATER_MARKS;
                } else if (marks.number(otherRow, p) == marks.number(row, p)) {
                    reason = Math.max(reason, BY_SUM);
                } else {
                    reason = Math.max(reason, BY_NUMBER);
                }
            }
            return reason;
        }

        private void addPlaces() {
            for (int position = 0; position < size; position++) {
                int sum = 0;
                for (int dance = 0; dance < dances; dance++) {
                    sum += places.get(dance, position);
                }
                totals.set(position, sum);
            }
        }

        // Those of one total that are not placed yet stay the ones with the smallest total that is left, so one loop
        // serves the totals and the rules.
        private void placeOverAll() {
            int left = (1 << size) - 1;
            int tied = 0;
            int next = 1;
            for (int step = 0; step < size && left != 0; step++) {
                int best = bestByTotal(left);
                if (Integer.bitCount(best) > 1) {
                    tied |= best;
                }
                int reason = (best & tied) == 0 ? OWN_TOTAL : RULE_10;
                best = bestByPlaces(best, next);
                if (Integer.bitCount(best) > 1) {
                    best = bestByMarks(best, next);
                    reason = Integer.bitCount(best) > 1 ? SHARED_OVER_ALL : RULE_11;
                }
                takePlaces(best, next, reason);
                next += Integer.bitCount(best);
                left &= ~best;
            }
        }

        private int bestByTotal(int group) {
            for (int position = 0; position < size; position++) {
                weights.set(position, -totals.get(position));
            }
            return heaviest(group);
        }

        private int bestByPlaces(int group, int r) {
            for (int position = 0; position < size; position++) {
                int weight = 0;
                for (int dance = 0; dance < dances; dance++) {
                    int place = places.get(dance, position);
                    weight += place <= 2 * r ? ONE_MORE - place : 0;
                }
                weights.set(position, weight);
            }
            return heaviest(group);
        }

        private int bestByMarks(int group, int r) {
            int best = group;
            for (int p = r; p <= size; p++) {
                for (int position = 0; position < size; position++) {
                    int weight = 0;
                    for (int dance = 0; dance < dances; dance++) {
                        weight += marks.weight(rowOf(dance, position), p);
                    }
                    weights.set(position, weight);
                }
                best = heaviest(best);
            }
            return best;
        }

        private int heaviest(int group) {
            int found = 0;
            int most = 0;
            for (int position = 0; position < size; position++) {
                int weight = weights.get(position);
                if (holds(group, position) && (found == 0 || weight >= most)) {
                    found = found != 0 && weight == most ? found | 1 << position : 1 << position;
                    most = weight;
                }
            }
            return found;
        }

        private void takePlaces(int group, int first, int reason) {
            int place = inHalves(first, Integer.bitCount(group));
            for (int position = 0; position < size; position++) {
                if (holds(group, position)) {
                    endPlaces.set(position, place);
                    endReasons.set(position, reason);
                }
            }
        }
    }
}
