import java.util.NoSuchElementException;

/** Pickpockets, second paper: a college told as a text, and what can be asked of it. README.md says how to use it. */
public final class SecondPaper {
    public static final int NONE = -1;

    /** Answers for a thing that nobody has, a day without a tram, and what can't be: no refusals. */
    private static final int NOBODY = -2;

    private static final int TAPE_BYTES = 1000;
    private static final int FEED_BYTES = 20;

    private static final int MOST_DAYS = 7;
    private static final int MOST_THINGS = 4;
    private static final int MOST_PEOPLE = 5;
    private static final int MOST_TRAMS = 4;
    private static final int MOST_GIVERS = 3;
    private static final int MOST_JOURNEYS = 16;
    private static final int MOST_GIFTS = 12;
    private static final int MOST_EXAMS = 8;

    // What a college counts, by the numbers of size().
    private static final int DAYS = 0;
    private static final int LIMIT = 1;
    private static final int THINGS = 2;
    private static final int PEOPLE = 3;
    private static final int TRAMS = 4;
    private static final int GIVERS = 5;
    private static final int JOURNEYS = 6;
    private static final int GIFTS = 7;
    private static final int FOUNDS = 8;
    private static final int EXAMS = 9;
    private static final int ALL_COUNTS = 10;

    // What comes of a gift, by the numbers of would().
    private static final int GIVEN = 0;
    private static final int CAUGHT = 1;
    private static final int APART = 2;
    private static final int GONE = 3;
    private static final int FULL = 4;

    // TROUBLE.
    private static final int NONE_SUCH = 1;
    private static final int BAD_NUMBER = 2;
    private static final int NO_ROOM = 3;
    private static final int A_FAULT = 4;
    private static final int NOT_SO = 5;
    private static final int NOTHING = 6;

    private static final int MOST_SEED = 65536;
    private static final int MOST_RUNS = 50;

    private final Reader reader = new Reader();
    private final State now = new State();
    private final History history = new History();
    private final Plan plan = new Plan();
    private final AllGiven allGiven = new AllGiven();
    private final WhoGave whoGave = new WhoGave();
    private final Choice choice = new Choice();
    private int trouble = 0;

    /** Without a COLLEGE this one is empty: it has no days, and so nothing that a call could ask for. */
    private College told = new College();

    public SecondPaper() {
    }

    // ---- the college

    public int feed(int a, int b, int c, int d, int e) {
        if (reader.tapeLength() + FEED_BYTES > TAPE_BYTES) {
            return NONE;
        }
        reader.append(a);
        reader.append(b);
        reader.append(c);
        reader.append(d);
        reader.append(e);
        return reader.tapeLength();
    }

    public int college(int n) {
        if (n < 0 || n > reader.tapeLength()) {
            return refused(BAD_NUMBER);
        }
        if (!reader.read(n)) {
            return refused(A_FAULT);
        }
        told = reader.exchange(told);
        now.begin();
        history.forgetAll();
        allGiven.forget();
        whoGave.forget();
        return fine(told.count(THINGS));
    }

    public int fault() {
        return reader.faultNumber();
    }

    public int where() {
        return trouble == A_FAULT ? reader.faultPlace() : NONE;
    }

    // ---- now

    public int thing(int t, int what) {
        if (!told.has(THINGS, t)) {
            return refused(NONE_SUCH);
        }
        switch (what) {
            case 0:
                return fine(told.things.get(t, College.SORT));
            case 1:
                return fine(told.things.get(t, College.WEIGHT));
            case 2:
                return fine(now.holder(t));
            default:
                return refused(NONE_SUCH);
        }
    }

    public int person(int p, int what) {
        if (!told.has(PEOPLE, p)) {
            return refused(NONE_SUCH);
        }
        switch (what) {
            case 0:
                return fine(told.people.get(p, College.KIND));
            case 1:
                return fine(now.roomOf(told, p));
            case 2:
                return fine(told.people.get(p, College.WAKES));
            case 3:
                return fine(now.thingsOf(p));
            default:
                return refused(NONE_SUCH);
        }
    }

    public int giver(int g, int what) {
        if (!told.has(GIVERS, g)) {
            return refused(NONE_SUCH);
        }
        switch (what) {
            case 0:
                return fine(told.givers.get(g, College.SKILL));
            case 1:
                return fine(now.scoreOf(g));
            case 2:
                return fine(now.timesCaught(g));
            default:
                return refused(NONE_SUCH);
        }
    }

    public int rides(int p, int day) {
        int why = whyNot(PEOPLE, p, day);
        return why != 0 ? refused(why) : fine(told.rideTrams.get(p, day));
    }

    public int takes(int g, int day) {
        int why = whyNot(GIVERS, g, day);
        return why != 0 ? refused(why) : fine(told.takeTrams.get(g, day));
    }

    public int meet(int g, int h) {
        if (!told.has(GIVERS, g) || !told.has(GIVERS, h) || g == h) {
            return refused(NONE_SUCH);
        }
        int bits = 0;
        for (int day = 0; day < told.count(DAYS); day++) {
            int tram = told.takeTrams.get(g, day);
            if (tram >= 0 && tram == told.takeTrams.get(h, day)) {
                bits |= 1 << day;
            }
        }
        return fine(bits);
    }

    public int near(int g, int t, int p, int tram) {
        if (!isGift(g, t, p) || !told.has(TRAMS, tram)) {
            return refused(NONE_SUCH);
        }
        return fine(told.nearness(g, t, p, tram, now.howManyOf(p)));
    }

    public int would(int g, int t, int p) {
        if (!isGift(g, t, p)) {
            return refused(NONE_SUCH);
        }
        return fine(now.outcome(told, now.today(), g, t, p));
    }

    public int riders(int tram, int day) {
        int why = whyNot(TRAMS, tram, day);
        if (why != 0) {
            return refused(why);
        }
        int bits = 0;
        for (int p = 0; p < told.count(PEOPLE); p++) {
            if (told.rideTrams.get(p, day) == tram) {
                bits |= 1 << p;
            }
        }
        return fine(bits);
    }

    public int spare(int p) {
        if (!told.has(PEOPLE, p)) {
            return refused(NONE_SUCH);
        }
        return fine(Math.max(0, now.roomOf(told, p) - now.howManyOf(p)));
    }

    public int safest(int t) {
        return told.has(THINGS, t) ? fine(told.safestGift(t)) : refused(NONE_SUCH);
    }

    // ---- the plan

    public int planned(int k) {
        if (!told.has(GIFTS, k)) {
            return refused(NONE_SUCH);
        }
        plan.runAll(told);
        return fine(plan.outcomeOf(k));
    }

    public int planHas(int p, int day) {
        int why = whyNot(PEOPLE, p, day);
        if (why != 0) {
            return refused(why);
        }
        plan.runThrough(told, day);
        return fine(plan.thingsOf(p));
    }

    public int planScore(int g, int day) {
        int why = whyNot(GIVERS, g, day);
        if (why != 0) {
            return refused(why);
        }
        plan.runThrough(told, day);
        return fine(plan.scoreOf(g));
    }

    public int first() {
        if (noCollege()) {
            return refused(NONE_SUCH);
        }
        plan.runAll(told);
        int best = 0;
        for (int g = 1; g < told.count(GIVERS); g++) {
            if (plan.scoreOf(g) > plan.scoreOf(best)) {
                best = g;
            }
        }
        return fine(best);
    }

    public int judge() {
        if (noCollege()) {
            return refused(NONE_SUCH);
        }
        plan.runAll(told);
        for (int k = 0; k < told.count(GIFTS); k++) {
            if (plan.outcomeOf(k) > CAUGHT) {
                return fine(k);
            }
        }
        return fine(NOBODY);
    }

    public int amiss() {
        if (noCollege()) {
            return refused(NONE_SUCH);
        }
        plan.runAll(told);
        for (int k = 0; k < told.count(FOUNDS); k++) {
            int t = told.founds.get(k, College.FOUND_THING);
            if (plan.holder(t) != told.founds.get(k, College.FOUND_PERSON)) {
                return fine(t);
            }
        }
        return fine(NOBODY);
    }

    // ---- all given

    public int soonest() {
        if (noCollege()) {
            return refused(NONE_SUCH);
        }
        allGiven.find(told);
        return fine(allGiven.lastDay());
    }

    public int soonestOf(int t) {
        if (!told.has(THINGS, t)) {
            return refused(NONE_SUCH);
        }
        allGiven.find(told);
        return allGiven.lastDay() < 0 ? refused(NOTHING) : fine(allGiven.giftOf(t));
    }

    public int never() {
        return noCollege() ? refused(NONE_SUCH) : fine(told.neverGiven());
    }

    // ---- who gave

    public int fits() {
        if (noCollege()) {
            return refused(NONE_SUCH);
        }
        if (told.count(FOUNDS) == 0) {
            return refused(NOTHING);
        }
        whoGave.find(told);
        return fine(whoGave.rowCount());
    }

    public int could(int t) {
        if (!told.isFound(t)) {
            return refused(NONE_SUCH);
        }
        whoGave.find(told);
        return fine(whoGave.giversOf(t));
    }

    public int surely(int t) {
        if (!told.isFound(t)) {
            return refused(NONE_SUCH);
        }
        whoGave.find(told);
        return fine(whoGave.onlyGiverOf(t));
    }

    // ---- lots, choices

    public long value(boolean lower) {
        if (noCollege()) {
            return refused(NONE_SUCH);
        }
        if (told.count(TRAMS) == 0) {
            return refused(NOTHING);
        }
        return fineLong(Chances.lotValue(told, lower));
    }

    public long lot(int tram, boolean lower) {
        if (!told.has(TRAMS, tram)) {
            return refused(NONE_SUCH);
        }
        return fineLong(Chances.lotOf(told, tram, lower));
    }

    public int rests(int day) {
        int why = noCollege() ? NONE_SUCH : whyNoChoice(day);
        if (why != 0) {
            return refused(why);
        }
        choice.find(told, day);
        return fine(choice.rowCount());
    }

    public int restOf(int day, int p) {
        int why = !told.has(PEOPLE, p) ? NONE_SUCH : whyNoChoice(day);
        if (why != 0) {
            return refused(why);
        }
        choice.find(told, day);
        return fine(choice.firstTramOf(told, p));
    }

    // ---- limits, dares

    public int limit(boolean most) {
        if (noCollege()) {
            return refused(NONE_SUCH);
        }
        int least = 0;
        int greatest = 100;
        for (int k = 0; k < told.count(EXAMS); k++) {
            int near = told.examNearness(k);
            if (told.examCaught(k)) {
                greatest = Math.min(greatest, near - 1);
            } else {
                least = Math.max(least, near);
            }
        }
        if (least > greatest) {
            return fine(NOBODY);
        }
        return fine(most ? greatest : least);
    }

    public int dare(int chance) {
        int why = whyNoDare(chance);
        return why != 0 ? refused(why) : fine(Chances.bestSteps(chance));
    }

    public long honours(int chance, boolean lower) {
        int why = whyNoDare(chance);
        return why != 0 ? refused(why) : fineLong(Chances.bestMean(chance, lower));
    }

    // ---- by draws

    public int drawn(int seed) {
        if (noCollege()) {
            return refused(NONE_SUCH);
        }
        if (!isSeed(seed)) {
            return refused(BAD_NUMBER);
        }
        plan.runByDraws(told, seed);
        int given = 0;
        for (int k = 0; k < told.count(GIFTS); k++) {
            if (plan.outcomeOf(k) == GIVEN) {
                given++;
            }
        }
        return fine(given);
    }

    public int caught(int g, int seed, int n) {
        if (!told.has(GIVERS, g)) {
            return refused(NONE_SUCH);
        }
        if (!isSeed(seed) || n < 1 || n > MOST_RUNS) {
            return refused(BAD_NUMBER);
        }
        int times = 0;
        int next = seed;
        for (int run = 0; run < n; run++) {
            next = plan.runByDraws(told, next);
            times += plan.timesCaught(g);
        }
        return fine(times);
    }

    // ---- acts

    public int give(int g, int t, int p) {
        if (!isGift(g, t, p)) {
            return refused(NONE_SUCH);
        }
        int comes = now.outcome(told, now.today(), g, t, p);
        if (comes > CAUGHT) {
            return refused(NOT_SO);
        }
        history.keep(now);
        now.settle(told, g, t, p, comes);
        return fine(comes);
    }

    public int day() {
        if (noCollege()) {
            return refused(NONE_SUCH);
        }
        history.keep(now);
        now.goOn(told.count(DAYS));
        return fine(now.today());
    }

    public boolean sew(int p) {
        if (!told.has(PEOPLE, p)) {
            return no(NONE_SUCH);
        }
        if (now.roomOf(told, p) <= 0) {
            return no(NOT_SO);
        }
        history.keep(now);
        now.sewUp(p);
        return yes();
    }

    public boolean undo() {
        return history.takeBack(now) ? yes() : no(NOTHING);
    }

    public int mark() {
        if (noCollege()) {
            return refused(NONE_SUCH);
        }
        int number = history.setMark(now);
        return number < 0 ? refused(NO_ROOM) : fine(number);
    }

    public boolean back(int mark) {
        return history.goBack(mark, now) ? yes() : no(NONE_SUCH);
    }

    // ---- what is told

    public int led(int i) throws NoSuchElementException {
        int behind = i;
        for (int t = 0; t < told.count(THINGS); t++) {
            if (now.holder(t) < 0) {
                if (behind == 0) {
                    return t;
                }
                behind--;
            }
        }
        throw new NoSuchElementException("no such thing is with the college");
    }

    public int size(int what) {
        switch (what) {
            case 10:
                return now.today();
            case 11:
                return history.actCount();
            case 12:
                return history.markCount();
            case 13:
                return reader.tapeLength();
            default:
                return what >= 0 && what < ALL_COUNTS ? told.count(what) : NONE;
        }
    }

    public int trouble() {
        return trouble;
    }

    private int fine(int answer) {
        trouble = 0;
        return answer;
    }

    private long fineLong(long answer) {
        trouble = 0;
        return answer;
    }

    private int refused(int why) {
        trouble = why;
        return NONE;
    }

    private boolean yes() {
        trouble = 0;
        return true;
    }

    private boolean no(int why) {
        trouble = why;
        return false;
    }

    private boolean noCollege() {
        return told.count(DAYS) == 0;
    }

    private boolean isGift(int g, int t, int p) {
        return told.has(GIVERS, g) && told.has(THINGS, t) && told.has(PEOPLE, p);
    }

    private static boolean isSeed(int seed) {
        return seed >= 0 && seed <= MOST_SEED;
    }

    private int whyNot(int sort, int number, int day) {
        if (!told.has(sort, number)) {
            return NONE_SUCH;
        }
        return told.has(DAYS, day) ? 0 : BAD_NUMBER;
    }

    private int whyNoChoice(int day) {
        if (told.count(TRAMS) == 0) {
            return NOTHING;
        }
        return told.has(DAYS, day) ? 0 : BAD_NUMBER;
    }

    private int whyNoDare(int chance) {
        if (noCollege()) {
            return NONE_SUCH;
        }
        return chance < 0 || chance > 100 ? BAD_NUMBER : 0;
    }

    /** Rows of numbers that read as 0 outside their bounds and take nothing there, so that no index makes the machine throw. */
    static final class Table {
        private static final int MOST_SIDE = 100;

        private final int rows;
        private final int width;
        private final int[] cells;

        Table(int rows, int width) {
            this.rows = Math.min(MOST_SIDE, Math.max(0, rows));
            this.width = Math.min(MOST_SIDE, Math.max(0, width));
            this.cells = new int[this.rows * this.width];
        }

        int get(int row, int column) {
            if (row < 0 || row >= rows || column < 0 || column >= width) {
                return 0;
            }
            int at = row * width + column;
            return at < cells.length ? cells[at] : 0;
        }

        void set(int row, int column, int number) {
            if (row < 0 || row >= rows || column < 0 || column >= width) {
                return;
            }
            int at = row * width + column;
            if (at < cells.length) {
                cells[at] = number;
            }
        }

        void add(int row, int column, int number) {
            set(row, column, get(row, column) + number);
        }

        void fill(int number) {
            for (int at = 0; at < cells.length; at++) {
                cells[at] = number;
            }
        }

        void copyRow(int row, Table from, int fromRow) {
            for (int column = 0; column < width; column++) {
                set(row, column, from.get(fromRow, column));
            }
        }
    }

    /** What the text tells: all that no act changes. The tables' columns have the names that stand above them. */
    static final class College {
        static final int SORT = 0;
        static final int WEIGHT = 1;
        private final Table things = new Table(MOST_THINGS, 2);

        static final int KIND = 0;
        static final int ROOM = 1;
        static final int WAKES = 2;
        private final Table people = new Table(MOST_PEOPLE, 3);

        static final int CROWD = 0;
        static final int WORTH = 1;
        private final Table trams = new Table(MOST_TRAMS, 2);

        static final int SKILL = 0;
        private final Table givers = new Table(MOST_GIVERS, 1);

        static final int GIFT_GIVER = 0;
        static final int GIFT_THING = 1;
        static final int GIFT_PERSON = 2;
        static final int GIFT_DAY = 3;
        private final Table gifts = new Table(MOST_GIFTS, 4);

        static final int FOUND_THING = 0;
        static final int FOUND_PERSON = 1;
        private final Table founds = new Table(MOST_THINGS, 2);

        static final int EXAM_GIVER = 0;
        static final int EXAM_THING = 1;
        static final int EXAM_PERSON = 2;
        static final int EXAM_TRAM = 3;
        static final int EXAM_ANSWER = 4;
        private final Table exams = new Table(MOST_EXAMS, 5);

        // A column for each day.
        private final Table rideTrams = new Table(MOST_PEOPLE, MOST_DAYS);
        private final Table takeTrams = new Table(MOST_GIVERS, MOST_DAYS);

        private final Table counts = new Table(1, ALL_COUNTS);

        // Sorts, kinds and answers are numbered as the text's words for them stand in the document.
        private static final int EGG = 1;
        private static final int LIVE = 2;
        private static final int BISHOP = 1;
        private static final int TAILOR = 2;
        private static final int GUARD = 3;
        private static final int ANSWER_CAUGHT = 0;

        void clear() {
            counts.fill(0);
            rideTrams.fill(NOBODY);
            takeTrams.fill(NOBODY);
        }

        int count(int what) {
            return counts.get(0, what);
        }

        boolean has(int what, int number) {
            return number >= 0 && number < count(what);
        }

        boolean isFound(int t) {
            for (int k = 0; k < count(FOUNDS); k++) {
                if (founds.get(k, FOUND_THING) == t) {
                    return true;
                }
            }
            return false;
        }

        boolean examCaught(int k) {
            return exams.get(k, EXAM_ANSWER) == ANSWER_CAUGHT;
        }

        int examNearness(int k) {
            return nearness(exams.get(k, EXAM_GIVER), exams.get(k, EXAM_THING), exams.get(k, EXAM_PERSON),
                exams.get(k, EXAM_TRAM), 0);
        }

        int roomTold(int p) {
            int room = people.get(p, ROOM);
            return people.get(p, KIND) == TAILOR ? room / 2 : room;
        }

        int honourOf(int t) {
            int sort = things.get(t, SORT);
            return sort == LIVE ? 4 : sort == EGG ? 2 : 1;
        }

        /** The tram on which a giver and a person are on a day; NOBODY if they aren't together. */
        int sharedTram(int g, int p, int day) {
            int tram = takeTrams.get(g, day);
            return tram >= 0 && tram == rideTrams.get(p, day) ? tram : NOBODY;
        }

        int nearness(int g, int t, int p, int tram, int had) {
            int sort = things.get(t, SORT);
            int kind = people.get(p, KIND);
            int near = people.get(p, WAKES) + things.get(t, WEIGHT) + 5 * had;
            near -= trams.get(tram, CROWD) + givers.get(g, SKILL);
            if (sort == EGG) {
                near += 3;
            } else if (sort == LIVE) {
                near += 10;
            }
            if (kind == BISHOP) {
                near -= 20;
            }
            near = Math.max(0, near);
            if (kind == GUARD) {
                near *= 2;
            }
            return Math.min(100, near);
        }

        boolean isNoticed(int near) {
            return near > counts.get(0, LIMIT);
        }

        /** Whether a gift on a day would be given, if the person had so many things and nothing were sewn up. */
        boolean canGive(int day, int g, int t, int p, int had) {
            int tram = sharedTram(g, p, day);
            return tram >= 0 && had < roomTold(p) && !isNoticed(nearness(g, t, p, tram, had));
        }

        int safestGift(int t) {
            int best = NOBODY;
            int least = 0;
            for (int day = 0; day < count(DAYS); day++) {
                for (int g = 0; g < count(GIVERS); g++) {
                    for (int p = 0; p < count(PEOPLE); p++) {
                        int tram = sharedTram(g, p, day);
                        if (tram < 0 || roomTold(p) < 1) {
                            continue;
                        }
                        int near = nearness(g, t, p, tram, 0);
                        if (best < 0 || near < least) {
                            best = 100 * day + 10 * g + p;
                            least = near;
                        }
                    }
                }
            }
            return best;
        }

        int neverGiven() {
            int bits = 0;
            for (int t = 0; t < count(THINGS); t++) {
                if (!canEverGive(t)) {
                    bits |= 1 << t;
                }
            }
            return bits;
        }

        private boolean canEverGive(int t) {
            for (int day = 0; day < count(DAYS); day++) {
                for (int g = 0; g < count(GIVERS); g++) {
                    for (int p = 0; p < count(PEOPLE); p++) {
                        if (canGive(day, g, t, p, 0)) {
                            return true;
                        }
                    }
                }
            }
            return false;
        }

        boolean anybodyTogether(int day) {
            for (int g = 0; g < count(GIVERS); g++) {
                for (int p = 0; p < count(PEOPLE); p++) {
                    if (sharedTram(g, p, day) >= 0) {
                        return true;
                    }
                }
            }
            return false;
        }
    }

    /** THE TAPE, and the reading of a text on it into a college, from the left, up to the first fault. */
    static final class Reader {
        private static final int FORM = 1;
        private static final int NOT_TOLD = 2;
        private static final int AGAIN = 3;
        private static final int BOUNDS = 4;
        private static final int MANY = 5;
        private static final int LACKS = 6;

        private static final int END = 0;
        private static final int WORD = 1;
        private static final int WHOLE = 2;
        private static final int SEMICOLON = 3;
        private static final int NO_TOKEN = 4;

        private static final int LINE_COLLEGE = 0;
        private static final int LINE_THING = 1;
        private static final int LINE_PERSON = 2;
        private static final int LINE_TRAM = 3;
        private static final int LINE_GIVER = 4;
        private static final int LINE_RIDES = 5;
        private static final int LINE_TAKES = 6;
        private static final int LINE_GIVES = 7;
        private static final int LINE_FOUND = 8;
        private static final int LINE_EXAM = 9;
        private static final int NO_LINE = 10;

        private static final int MOST_NAMES = MOST_THINGS + MOST_PEOPLE + MOST_TRAMS + MOST_GIVERS;

        private static final int NAME_SORT = 0;
        private static final int NAME_NUMBER = 1;

        private final byte[] tape = new byte[TAPE_BYTES];
        private int onTape = 0;

        /** A text is read into this one, so that a fault leaves the told college as it was. */
        private College draft = new College();
        private final long[] nameCodes = new long[MOST_NAMES];
        private final Table names = new Table(MOST_NAMES, 2);
        private int nameCount = 0;

        private int end = 0;
        private int token = END;
        private int place = 0;
        private int length = 0;
        /** Of a word a number that no other word has; of a whole the number itself. */
        private long code = 0;

        /** What the latest token that was taken stands for: a whole, a name's number, or which word of some. */
        private int taken = 0;
        private int takenAt = 0;

        private int faultIs = 0;
        private int faultAt = 0;

        int tapeLength() {
            return onTape;
        }

        void append(int number) {
            for (int shift = 24; shift >= 0; shift -= 8) {
                if (onTape >= 0 && onTape < tape.length) {
                    tape[onTape] = (byte) (number >> shift);
                    onTape++;
                }
            }
        }

        int faultNumber() {
            return faultIs;
        }

        int faultPlace() {
            return faultAt;
        }

        /** Hands out the college that was read, and takes one that is no longer needed to read the next text into. */
        College exchange(College old) {
            College read = draft;
            draft = old;
            return read;
        }

        boolean read(int bytes) {
            begin(bytes);
            for (int line = 0; line <= TAPE_BYTES; line++) {
                if (!readLine()) {
                    return false;
                }
                if (token == END) {
                    return lacksNothing();
                }
                if (token != SEMICOLON) {
                    return failAt(FORM, place);
                }
                take(0);
            }
            return failAt(FORM, place);
        }

        private void begin(int bytes) {
            draft.clear();
            onTape = 0;
            end = Math.min(bytes, tape.length);
            nameCount = 0;
            faultIs = 0;
            faultAt = 0;
            place = 0;
            length = 0;
            take(0);
        }

        private boolean lacksNothing() {
            boolean lacks = draft.count(THINGS) == 0 || draft.count(PEOPLE) == 0 || draft.count(GIVERS) == 0;
            return lacks ? failAt(LACKS, place) : true;
        }

        private boolean failAt(int number, int at) {
            faultIs = number;
            faultAt = at;
            return false;
        }

        // -- tokens

        /** Goes on to the next token, the present one having been understood. */
        private boolean take(int meaning) {
            taken = meaning;
            takenAt = place;
            int at = Math.max(0, place + length);
            while (at < end && at < tape.length && tape[at] == ' ') {
                at++;
            }
            place = at;
            length = 0;
            if (at >= end || at >= tape.length) {
                token = END;
                return true;
            }
            int sign = tape[at];
            if (sign == ';') {
                length = 1;
                token = SEMICOLON;
            } else if (sign >= 'a' && sign <= 'z') {
                token = findRun('a', 'z', 1, 27) <= 8 ? WORD : NO_TOKEN;
            } else if (sign >= '0' && sign <= '9') {
                token = findRun('0', '9', 0, 10) <= 3 ? WHOLE : NO_TOKEN;
            } else {
                token = NO_TOKEN;
            }
            return true;
        }

        /** All that stand together are one run, however long: one that is too long is no token from its first byte on. */
        private int findRun(int from, int to, int lowest, int base) {
            int at = Math.max(0, place);
            code = 0;
            while (at < end && at < tape.length && tape[at] >= from && tape[at] <= to) {
                code = base * code + (tape[at] - from + lowest);
                at++;
            }
            length = at - place;
            return length;
        }

        private static long codeOf(String word) {
            long sum = 0;
            for (int i = 0; i < word.length(); i++) {
                sum = 27 * sum + (word.charAt(i) - 'a' + 1);
            }
            return sum;
        }

        private boolean takeWord(String word) {
            return token == WORD && code == codeOf(word) ? take(0) : failAt(FORM, place);
        }

        /** Where there are fewer than four, the others are empty, as no word is. */
        private boolean takeOneOf(String word0, String word1, String word2, String word3) {
            if (token != WORD) {
                return failAt(FORM, place);
            }
            if (code == codeOf(word0)) {
                return take(0);
            }
            if (code == codeOf(word1)) {
                return take(1);
            }
            if (code == codeOf(word2)) {
                return take(2);
            }
            return code == codeOf(word3) ? take(3) : failAt(FORM, place);
        }

        private boolean takeWhole(int least, int most) {
            if (token != WHOLE) {
                return failAt(FORM, place);
            }
            return code < least || code > most ? failAt(BOUNDS, place) : take((int) code);
        }

        // -- names

        private int findName() {
            for (int n = 0; n < nameCount && n < nameCodes.length; n++) {
                if (nameCodes[n] == code) {
                    return n;
                }
            }
            return NONE;
        }

        private boolean takeNewName(int sort) {
            if (token != WORD || lineSort() != NO_LINE) {
                return failAt(FORM, place);
            }
            if (findName() >= 0) {
                return failAt(AGAIN, place);
            }
            if (nameCount >= 0 && nameCount < nameCodes.length) {
                nameCodes[nameCount] = code;
                names.set(nameCount, NAME_SORT, sort);
                names.set(nameCount, NAME_NUMBER, draft.count(sort));
                nameCount++;
            }
            return take(0);
        }

        private boolean takeName(int sort) {
            if (token != WORD || lineSort() != NO_LINE) {
                return failAt(FORM, place);
            }
            int n = findName();
            if (n < 0 || names.get(n, NAME_SORT) != sort) {
                return failAt(NOT_TOLD, place);
            }
            return take(names.get(n, NAME_NUMBER));
        }

        // -- lines

        private int lineSort() {
            for (int sort = 0; sort < NO_LINE; sort++) {
                if (token == WORD && code == codeOf(lineWord(sort))) {
                    return sort;
                }
            }
            return NO_LINE;
        }

        private static String lineWord(int sort) {
            switch (sort) {
                case LINE_COLLEGE:
                    return "college";
                case LINE_THING:
                    return "thing";
                case LINE_PERSON:
                    return "person";
                case LINE_TRAM:
                    return "tram";
                case LINE_GIVER:
                    return "giver";
                case LINE_RIDES:
                    return "rides";
                case LINE_TAKES:
                    return "takes";
                case LINE_GIVES:
                    return "gives";
                case LINE_FOUND:
                    return "found";
                default:
                    return "exam";
            }
        }

        private boolean readLine() {
            int sort = lineSort();
            if (sort == NO_LINE) {
                return failAt(FORM, place);
            }
            boolean begun = draft.count(DAYS) > 0;
            if (sort == LINE_COLLEGE) {
                return begun ? failAt(AGAIN, place) : take(0) && readCollege();
            }
            if (!begun) {
                return failAt(LACKS, place);
            }
            return isFull(sort) ? failAt(MANY, place) : take(0) && readRest(sort);
        }

        private boolean isFull(int sort) {
            switch (sort) {
                case LINE_THING:
                    return draft.count(THINGS) >= MOST_THINGS;
                case LINE_PERSON:
                    return draft.count(PEOPLE) >= MOST_PEOPLE;
                case LINE_TRAM:
                    return draft.count(TRAMS) >= MOST_TRAMS;
                case LINE_GIVER:
                    return draft.count(GIVERS) >= MOST_GIVERS;
                case LINE_RIDES:
                case LINE_TAKES:
                    return draft.count(JOURNEYS) >= MOST_JOURNEYS;
                case LINE_GIVES:
                    return draft.count(GIFTS) >= MOST_GIFTS;
                case LINE_EXAM:
                    return draft.count(EXAMS) >= MOST_EXAMS;
                default:
                    // Of found lines each thing allows one: one more is the thing's fault, not the line's.
                    return false;
            }
        }

        private boolean readRest(int sort) {
            switch (sort) {
                case LINE_THING:
                    return readThing() && addTo(THINGS);
                case LINE_PERSON:
                    return readPerson() && addTo(PEOPLE);
                case LINE_TRAM:
                    return readTram() && addTo(TRAMS);
                case LINE_GIVER:
                    return readGiver() && addTo(GIVERS);
                case LINE_RIDES:
                    return readJourney(PEOPLE, draft.rideTrams) && addTo(JOURNEYS);
                case LINE_TAKES:
                    return readJourney(GIVERS, draft.takeTrams) && addTo(JOURNEYS);
                case LINE_GIVES:
                    return readGift() && addTo(GIFTS);
                case LINE_FOUND:
                    return readFound() && addTo(FOUNDS);
                default:
                    return readExam() && addTo(EXAMS);
            }
        }

        private boolean addTo(int what) {
            draft.counts.add(0, what, 1);
            return true;
        }

        private boolean put(Table table, int row, int column) {
            table.set(row, column, taken);
            return true;
        }

        private boolean readCollege() {
            return takeWord("days") && takeWhole(2, MOST_DAYS) && put(draft.counts, 0, DAYS)
                && takeWord("limit") && takeWhole(0, 100) && put(draft.counts, 0, LIMIT);
        }

        private boolean readThing() {
            int row = draft.count(THINGS);
            return takeNewName(THINGS)
                && takeOneOf("dead", "egg", "live", "") && put(draft.things, row, College.SORT)
                && takeWord("weighs") && takeWhole(0, 50) && put(draft.things, row, College.WEIGHT);
        }

        private boolean readPerson() {
            int row = draft.count(PEOPLE);
            return takeNewName(PEOPLE)
                && takeOneOf("plain", "bishop", "tailor", "guard") && put(draft.people, row, College.KIND)
                && takeWord("room") && takeWhole(0, 9) && put(draft.people, row, College.ROOM)
                && takeWord("wakes") && takeWhole(0, 99) && put(draft.people, row, College.WAKES);
        }

        private boolean readTram() {
            int row = draft.count(TRAMS);
            return takeNewName(TRAMS)
                && takeWord("crowd") && takeWhole(0, 60) && put(draft.trams, row, College.CROWD)
                && takeWord("worth") && takeWhole(1, 60) && put(draft.trams, row, College.WORTH);
        }

        private boolean readGiver() {
            int row = draft.count(GIVERS);
            return takeNewName(GIVERS)
                && takeWord("skill") && takeWhole(0, 60) && put(draft.givers, row, College.SKILL);
        }

        private boolean readJourney(int sort, Table journeys) {
            if (!takeName(sort)) {
                return false;
            }
            int who = taken;
            if (!takeName(TRAMS)) {
                return false;
            }
            int tram = taken;
            if (!takeWhole(0, draft.count(DAYS) - 1)) {
                return false;
            }
            if (journeys.get(who, taken) >= 0) {
                return failAt(AGAIN, takenAt);
            }
            journeys.set(who, taken, tram);
            return true;
        }

        private boolean readGift() {
            int row = draft.count(GIFTS);
            return takeName(GIVERS) && put(draft.gifts, row, College.GIFT_GIVER)
                && takeName(THINGS) && put(draft.gifts, row, College.GIFT_THING)
                && takeName(PEOPLE) && put(draft.gifts, row, College.GIFT_PERSON)
                && takeWhole(0, draft.count(DAYS) - 1) && put(draft.gifts, row, College.GIFT_DAY);
        }

        private boolean readFound() {
            int row = draft.count(FOUNDS);
            if (!takeName(THINGS)) {
                return false;
            }
            if (draft.isFound(taken)) {
                return failAt(AGAIN, takenAt);
            }
            return put(draft.founds, row, College.FOUND_THING)
                && takeName(PEOPLE) && put(draft.founds, row, College.FOUND_PERSON);
        }

        private boolean readExam() {
            int row = draft.count(EXAMS);
            return takeName(GIVERS) && put(draft.exams, row, College.EXAM_GIVER)
                && takeName(THINGS) && put(draft.exams, row, College.EXAM_THING)
                && takeName(PEOPLE) && put(draft.exams, row, College.EXAM_PERSON)
                && takeName(TRAMS) && put(draft.exams, row, College.EXAM_TRAM)
                && takeOneOf("caught", "free", "", "") && put(draft.exams, row, College.EXAM_ANSWER);
        }
    }

    /** All that acts change, in one row, so that it can be kept and brought back whole. */
    static final class State {
        private static final int HOLDERS = 0;
        private static final int SEWN = HOLDERS + MOST_THINGS;
        private static final int SCORES = SEWN + MOST_PEOPLE;
        private static final int CAUGHTS = SCORES + MOST_GIVERS;
        private static final int TODAY = CAUGHTS + MOST_GIVERS;
        static final int WIDTH = TODAY + 1;

        private final Table row = new Table(1, WIDTH);

        State() {
            begin();
        }

        final void begin() {
            row.fill(0);
            for (int t = 0; t < MOST_THINGS; t++) {
                row.set(0, HOLDERS + t, NOBODY);
            }
        }

        void saveTo(Table table, int at) {
            table.copyRow(at, row, 0);
        }

        void loadFrom(Table table, int at) {
            row.copyRow(0, table, at);
        }

        int today() {
            return row.get(0, TODAY);
        }

        int holder(int t) {
            return row.get(0, HOLDERS + t);
        }

        int scoreOf(int g) {
            return row.get(0, SCORES + g);
        }

        int timesCaught(int g) {
            return row.get(0, CAUGHTS + g);
        }

        int roomOf(College college, int p) {
            return college.roomTold(p) - row.get(0, SEWN + p);
        }

        int thingsOf(int p) {
            int bits = 0;
            for (int t = 0; t < MOST_THINGS; t++) {
                if (row.get(0, HOLDERS + t) == p) {
                    bits |= 1 << t;
                }
            }
            return bits;
        }

        int howManyOf(int p) {
            return Integer.bitCount(thingsOf(p));
        }

        /** What keeps a gift from being tried; GIVEN if nothing does. */
        int hindrance(College college, int day, int g, int t, int p) {
            if (college.sharedTram(g, p, day) < 0) {
                return APART;
            }
            if (holder(t) >= 0) {
                return GONE;
            }
            return howManyOf(p) >= roomOf(college, p) ? FULL : GIVEN;
        }

        int nearOn(College college, int day, int g, int t, int p) {
            return college.nearness(g, t, p, college.sharedTram(g, p, day), howManyOf(p));
        }

        int outcome(College college, int day, int g, int t, int p) {
            int hindrance = hindrance(college, day, g, t, p);
            if (hindrance != GIVEN) {
                return hindrance;
            }
            return college.isNoticed(nearOn(college, day, g, t, p)) ? CAUGHT : GIVEN;
        }

        void settle(College college, int g, int t, int p, int outcome) {
            if (outcome == GIVEN) {
                row.set(0, HOLDERS + t, p);
                row.add(0, SCORES + g, college.honourOf(t));
            } else if (outcome == CAUGHT) {
                row.set(0, SCORES + g, 0);
                row.add(0, CAUGHTS + g, 1);
            }
        }

        void goOn(int days) {
            int next = today() + 1;
            row.set(0, TODAY, next < days ? next : 0);
        }

        void sewUp(int p) {
            row.add(0, SEWN + p, 1);
        }
    }

    /** The states ahead of the latest acts, and those that are marked. */
    static final class History {
        private static final int MOST_ACTS = 16;
        private static final int MOST_MARKS = 3;

        private final Table acts = new Table(MOST_ACTS, State.WIDTH);
        private final Table marks = new Table(MOST_MARKS, State.WIDTH);
        /** Where the next act goes: the rows are a ring, in which it takes the oldest one's place. */
        private int next = 0;
        private int kept = 0;
        private int marked = 0;

        void forgetAll() {
            kept = 0;
            marked = 0;
        }

        int actCount() {
            return kept;
        }

        int markCount() {
            return marked;
        }

        void keep(State state) {
            state.saveTo(acts, next);
            next = (next + 1) % MOST_ACTS;
            kept = Math.min(MOST_ACTS, kept + 1);
        }

        boolean takeBack(State state) {
            if (kept == 0) {
                return false;
            }
            next = (next + MOST_ACTS - 1) % MOST_ACTS;
            kept--;
            state.loadFrom(acts, next);
            return true;
        }

        int setMark(State state) {
            if (marked >= MOST_MARKS) {
                return NONE;
            }
            state.saveTo(marks, marked);
            marked++;
            return marked - 1;
        }

        boolean goBack(int number, State state) {
            if (number < 0 || number >= marked) {
                return false;
            }
            state.loadFrom(marks, number);
            kept = 0;
            return true;
        }
    }

    /** THE PLAN from the beginning, in a state of its own, without draws or by them. */
    static final class Plan {
        private static final int NO_DRAWS = -1;

        private final State state = new State();
        private final Table outcomes = new Table(1, MOST_GIFTS);
        private int seed = NO_DRAWS;

        void runAll(College college) {
            seed = NO_DRAWS;
            runGifts(college, college.count(DAYS) - 1);
        }

        void runThrough(College college, int lastDay) {
            seed = NO_DRAWS;
            runGifts(college, lastDay);
        }

        /** Answers the seed with which the next one would go on. */
        int runByDraws(College college, int firstSeed) {
            seed = firstSeed;
            runGifts(college, college.count(DAYS) - 1);
            return seed;
        }

        int outcomeOf(int k) {
            return outcomes.get(0, k);
        }

        int thingsOf(int p) {
            return state.thingsOf(p);
        }

        int holder(int t) {
            return state.holder(t);
        }

        int scoreOf(int g) {
            return state.scoreOf(g);
        }

        int timesCaught(int g) {
            return state.timesCaught(g);
        }

        private void runGifts(College college, int lastDay) {
            state.begin();
            for (int day = 0; day <= lastDay && day < MOST_DAYS; day++) {
                for (int k = 0; k < college.count(GIFTS); k++) {
                    if (college.gifts.get(k, College.GIFT_DAY) == day) {
                        runGift(college, k, day);
                    }
                }
            }
        }

        private void runGift(College college, int k, int day) {
            int g = college.gifts.get(k, College.GIFT_GIVER);
            int t = college.gifts.get(k, College.GIFT_THING);
            int p = college.gifts.get(k, College.GIFT_PERSON);
            int outcome = state.hindrance(college, day, g, t, p);
            if (outcome == GIVEN && isCaught(college, state.nearOn(college, day, g, t, p))) {
                outcome = CAUGHT;
            }
            outcomes.set(0, k, outcome);
            state.settle(college, g, t, p, outcome);
        }

        private boolean isCaught(College college, int near) {
            if (seed == NO_DRAWS) {
                return college.isNoticed(near);
            }
            seed = (75 * seed + 74) % (MOST_SEED + 1);
            return seed % 100 < near;
        }
    }

    /** ALL GIVEN: the soonest row, kept once it is found, as no act changes it. */
    static final class AllGiven {
        /** Of each thing day, giver, person. */
        private final Table chosen = new Table(MOST_THINGS, 3);
        private boolean known = false;
        private int last = NOBODY;

        void forget() {
            known = false;
        }

        int lastDay() {
            return last;
        }

        int giftOf(int t) {
            return 100 * chosen.get(t, 0) + 10 * chosen.get(t, 1) + chosen.get(t, 2);
        }

        void find(College college) {
            if (known) {
                return;
            }
            known = true;
            last = NOBODY;
            if (college.neverGiven() != 0) {
                return;
            }
            for (int day = 0; day < college.count(DAYS); day++) {
                // A day on which nobody is together adds no gift to the search that just failed.
                if (college.anybodyTogether(day) && place(college, 0, day, 0)) {
                    last = day;
                    return;
                }
            }
        }

        /** Tries the gifts of a thing in their order, the things ahead of it being placed; busy has a bit for each giver's day. */
        private boolean place(College college, int t, int latest, int busy) {
            if (t >= college.count(THINGS) || t >= MOST_THINGS) {
                return true;
            }
            for (int day = 0; day <= latest && day < MOST_DAYS; day++) {
                for (int g = 0; g < college.count(GIVERS); g++) {
                    int bit = 1 << (day * MOST_GIVERS + g);
                    if ((busy & bit) != 0 || college.takeTrams.get(g, day) < 0) {
                        continue;
                    }
                    for (int p = 0; p < college.count(PEOPLE); p++) {
                        choose(t, day, g, p);
                        if (standsBy(college, t) && place(college, t + 1, latest, busy | bit)) {
                            return true;
                        }
                    }
                }
            }
            return false;
        }

        private void choose(int t, int day, int g, int p) {
            chosen.set(t, 0, day);
            chosen.set(t, 1, g);
            chosen.set(t, 2, p);
        }

        /** Whether the newly placed thing can be given, and those to the same person still: one given earlier makes them harder. */
        private boolean standsBy(College college, int newest) {
            for (int t = newest; t >= 0; t--) {
                if (chosen.get(t, 2) == chosen.get(newest, 2) && !stands(college, t, newest)) {
                    return false;
                }
            }
            return true;
        }

        private boolean stands(College college, int t, int newest) {
            int day = chosen.get(t, 0);
            int p = chosen.get(t, 2);
            int had = 0;
            for (int other = 0; other <= newest; other++) {
                int otherDay = chosen.get(other, 0);
                boolean earlier = otherDay < day || otherDay == day && other < t;
                if (earlier && chosen.get(other, 2) == p) {
                    had++;
                }
            }
            return college.canGive(day, chosen.get(t, 1), t, p, had);
        }
    }

    /** WHO GAVE: all rows, counted once, as no act changes them. */
    static final class WhoGave {
        private final Table chosen = new Table(1, MOST_THINGS);
        private final Table givers = new Table(1, MOST_THINGS);
        private boolean known = false;
        private int rows = 0;

        void forget() {
            known = false;
        }

        int rowCount() {
            return rows;
        }

        int giversOf(int t) {
            return givers.get(0, t);
        }

        int onlyGiverOf(int t) {
            for (int g = 0; g < MOST_GIVERS; g++) {
                if (giversOf(t) == 1 << g) {
                    return g;
                }
            }
            return NOBODY;
        }

        void find(College college) {
            if (known) {
                return;
            }
            known = true;
            rows = 0;
            givers.fill(0);
            choose(college, 0, 0);
        }

        /** Goes through the givers' days for the k-th thing found; busy has a bit for each that is chosen already. */
        private void choose(College college, int k, int busy) {
            if (k >= college.count(FOUNDS) || k >= MOST_THINGS) {
                countRow(college);
                return;
            }
            int t = college.founds.get(k, College.FOUND_THING);
            int p = college.founds.get(k, College.FOUND_PERSON);
            for (int day = 0; day < college.count(DAYS); day++) {
                for (int g = 0; g < college.count(GIVERS); g++) {
                    int bit = 1 << (day * MOST_GIVERS + g);
                    if ((busy & bit) == 0 && college.canGive(day, g, t, p, 0)) {
                        chosen.set(0, k, g);
                        choose(college, k + 1, busy | bit);
                    }
                }
            }
        }

        private void countRow(College college) {
            rows++;
            for (int k = 0; k < college.count(FOUNDS); k++) {
                int t = college.founds.get(k, College.FOUND_THING);
                givers.set(0, t, givers.get(0, t) | 1 << chosen.get(0, k));
            }
        }
    }

    /** CHOICE: which rows of persons' trams are at rest; a row is a number whose digits are the trams, the first person's highest. */
    static final class Choice {
        private static final int SHARED = 60;

        private final Table givers = new Table(1, MOST_TRAMS);
        private final Table seated = new Table(1, MOST_TRAMS);
        private int rows = 0;
        private int firstRow = NONE;

        int rowCount() {
            return rows;
        }

        int firstTramOf(College college, int p) {
            int trams = college.count(TRAMS);
            if (firstRow < 0 || trams <= 0) {
                return NOBODY;
            }
            int row = firstRow;
            for (int behind = college.count(PEOPLE) - 1; behind > p; behind--) {
                row /= trams;
            }
            return row % trams;
        }

        void find(College college, int day) {
            rows = 0;
            firstRow = NONE;
            countGivers(college, day);
            int all = 1;
            for (int p = 0; p < college.count(PEOPLE); p++) {
                all *= college.count(TRAMS);
            }
            for (int row = 0; row < all; row++) {
                seat(college, row);
                if (isRest(college.count(TRAMS))) {
                    rows++;
                    firstRow = firstRow < 0 ? row : firstRow;
                }
            }
        }

        private void countGivers(College college, int day) {
            givers.fill(0);
            for (int g = 0; g < college.count(GIVERS); g++) {
                givers.add(0, college.takeTrams.get(g, day), 1);
            }
        }

        private void seat(College college, int row) {
            int trams = college.count(TRAMS);
            if (trams <= 0) {
                return;
            }
            seated.fill(0);
            int rest = row;
            for (int p = 0; p < college.count(PEOPLE); p++) {
                seated.add(0, rest % trams, 1);
                rest /= trams;
            }
        }

        /** Nobody can gain if the least share that somebody has is no less than the greatest that one more would have. */
        private boolean isRest(int trams) {
            int least = SHARED * MOST_GIVERS;
            int greatest = 0;
            for (int tram = 0; tram < trams; tram++) {
                int people = seated.get(0, tram);
                if (people > 0) {
                    least = Math.min(least, share(tram, people));
                }
                greatest = Math.max(greatest, share(tram, people + 1));
            }
            return least >= greatest;
        }

        private int share(int tram, int people) {
            return people <= 0 ? 0 : SHARED * givers.get(0, tram) / people;
        }
    }

    /** LOT and DARE, in whole numbers: each fraction as an upper and a lower one. */
    static final class Chances {
        private static final int MOST_STEPS = 8;

        /** The upper or the lower number of a fraction in lowest terms. */
        private static long part(long upper, long lower, boolean wantsLower) {
            long divisor = upper;
            long rest = lower;
            for (int step = 0; step < 200 && rest != 0; step++) {
                long next = divisor % rest;
                divisor = rest;
                rest = next;
            }
            long whole = wantsLower ? lower : upper;
            return divisor == 0 ? whole : whole / divisor;
        }

        static long lotValue(College college, boolean lower) {
            int best = bestCount(college);
            return part((best - 1) * product(college, best), sum(college, best), lower);
        }

        static long lotOf(College college, int tram, boolean lower) {
            int best = bestCount(college);
            int worth = college.trams.get(tram, College.WORTH);
            if (rank(college, tram) >= best || worth <= 0) {
                return lower ? 1 : 0;
            }
            return part(product(college, best) / worth, sum(college, best), lower);
        }

        /** How many trams of greatest worth the giver takes: with chances by 1 / worth the value is (count - 1) / (sum of 1 / worth). */
        private static int bestCount(College college) {
            int best = 1;
            for (int count = 2; count <= college.count(TRAMS); count++) {
                long upper = (count - 1) * product(college, count);
                long bestUpper = (best - 1) * product(college, best);
                if (upper * sum(college, best) > bestUpper * sum(college, count)) {
                    best = count;
                }
            }
            return best;
        }

        private static int rank(College college, int tram) {
            int ahead = 0;
            int worth = college.trams.get(tram, College.WORTH);
            for (int other = 0; other < college.count(TRAMS); other++) {
                int otherWorth = college.trams.get(other, College.WORTH);
                if (otherWorth > worth || otherWorth == worth && other < tram) {
                    ahead++;
                }
            }
            return ahead;
        }

        private static long product(College college, int count) {
            long product = 1;
            for (int tram = 0; tram < college.count(TRAMS); tram++) {
                if (rank(college, tram) < count) {
                    product *= college.trams.get(tram, College.WORTH);
                }
            }
            return product;
        }

        /** The sum of 1 / worth, times the product, which makes it whole. */
        private static long sum(College college, int count) {
            long product = product(college, count);
            long sum = 0;
            for (int tram = 0; tram < college.count(TRAMS); tram++) {
                int worth = college.trams.get(tram, College.WORTH);
                if (worth > 0 && rank(college, tram) < count) {
                    sum += product / worth;
                }
            }
            return sum;
        }

        static int bestSteps(int chance) {
            int best = 0;
            for (int steps = 1; steps <= MOST_STEPS; steps++) {
                if (scaledMean(steps, chance) > scaledMean(best, chance)) {
                    best = steps;
                }
            }
            return best;
        }

        static long bestMean(int chance, boolean lower) {
            int steps = bestSteps(chance);
            return part(steps * power(100 - chance, steps), power(100, steps), lower);
        }

        /** The mean behind so many steps, times 100 to the most steps, so that all can be compared. */
        private static long scaledMean(int steps, int chance) {
            return steps * power(100 - chance, steps) * power(100, MOST_STEPS - steps);
        }

        private static long power(long base, int times) {
            long product = 1;
            for (int i = 0; i < times; i++) {
                product *= base;
            }
            return product;
        }
    }
}
