import java.util.Arrays;

/** A cold box, tick by tick, with its troubles, signs, costs and plans; the document tells its words in capitals. */
public final class ColdBox {
    public static final int NONE = -1, UNKNOWN = -1000000001, OUTSIDE = -1000000002, NOT = -1000000003, FULL = -1000000004;

    private static final int DAY_TICKS = 288, HOUR_TICKS = 12, HOURS = 24;
    private static final int SHELVES = 3, COIL = 3, FIRST_FOOD = 4, FOODS = 8, CELLS = 12;
    private static final int AIR_CAP = 20, COIL_CAP = 40;
    private static final int FUR_MOST = 9999, FUR_OF_TROUBLE = 600;

    // TROUBLES as bits of a SET.
    private static final int TROUBLES = 7, ALL_TROUBLES = 127;
    private static final int AJAR = 1, FURRED = 2, FLUFFED = 4, SHORT = 8, STUCK = 16, LIT = 32, PLACED = 64;

    // Numbers of THE BOX, as told() counts them; up to the stove a clause has its number's place.
    private static final int POWER = 0, WALL = 1, SEAL = 2, MIX = 3, COLD = 4, FOOD = 5, ON = 6, OFF = 7, BULB = 8;
    private static final int USE = 9, LAMP = 10, ROOM = 11, STOVE_A = 12, STOVE_B = 13, STOVE_N = 14, BOX_NUMBERS = 15;
    private static final int STOVE = 12, CLAUSES = 13;
    private static final int[] UNTOLD = {900, 4, 3, 40, 60, 10, 70, 30, 1, 10, 4, 200, -1, -1, 0};
    private static final int[] LEAST = {1, 0, 0, 0, 0, 1, 0, 0, 0, 1, 0, 0, 0, 0, 0};
    private static final int[] MOST = {999, 99, 99, 99, 99, 99, 200, 200, 2, 99, 99, 400, 24, 24, 200};
    private static final int TEXT_MOST = 300, FIGURES_MOST = 3, OPENINGS_MOST = 12, OPEN_TICKS_MOST = 20;

    // What is COUNTED, as count() and heat() number it.
    private static final int TICK = 0, USED = 1, STARTS = 2, TICKS_ON = 3;
    private static final int WET = 4, FUR = 5, DRAINED = 6, PASSED = 7, COUNTS = 8;
    private static final int CAME_IN = 1, PUT_IN = 2, BY_LAMP = 3, MOVED = 4, TAKEN = 5, HEATS = 6;

    private static final int SIGNS = 7, SIGN_DAYS = 6, SIGN_USED = 6, EXACT_UNSEEN = 50, HALVINGS_MOST = 20;
    private static final long MILLION = 1000000;
    private static final int[] COULD_BE = {0, 1, 2, 4, 8, 16, 32, 64, 3, 5, 9, 17, 33, 65, 6, 10, 18, 34, 66,
        12, 20, 36, 68, 24, 40, 72, 48, 80, 96};
    private static final int MAKES_DAYS = 30, ICE_DAYS = 20, USE_DAYS = 2, YEARS_MOST = 30, YEAR_DAYS = 365;
    private static final int LYING_FOODS = 6, WITHOUT_TICKS = 864, STORED_MOST = 40, STORED_STEP = 5;

    private final Reader reader = new Reader();
    private final Build build = new Build();
    private final Openings openings = new Openings();
    private final Ticker ticker = new Ticker(build, openings);
    private final State now = new State();
    private final State image0 = new State();
    private final State image1 = new State();
    private final boolean[] kept = new boolean[2];
    private final boolean[] drawnDoor = new boolean[DAY_TICKS];
    private final FreshRuns freshRuns = new FreshRuns(ticker);
    private final Guess guess = new Guess(freshRuns);
    private final Purse purse = new Purse(freshRuns);
    private final Trials trials = new Trials(ticker, now);

    public ColdBox() {
        now.current = true;
        now.becomeFresh();
    }

    // ---- the box

    public int feed(int n, long bytes) {
        if (n < 1 || n > 8) return OUTSIDE;
        return reader.append(n, bytes) ? reader.length : FULL;
    }

    public int box() {
        reader.readBox();
        reader.length = 0;
        if (reader.fault != 0) return -10 - reader.fault;
        build.copyFrom(reader.numbers);
        now.becomeFresh();
        freshRuns.forgetSigns();
        return reader.clauses;
    }

    public int day() {
        reader.readDay();
        reader.length = 0;
        if (reader.fault != 0) return -10 - reader.fault;
        openings.copyFrom(reader.clauses, reader.from, reader.lasting);
        freshRuns.forgetSigns();
        return reader.clauses;
    }

    public int fault() {
        return reader.place;
    }

    public int told(int what) {
        return what < 0 || what >= BOX_NUMBERS ? OUTSIDE : build.numbers[what];
    }

    public int opening(int i, int what) {
        if (what < 0 || what > 1) return OUTSIDE;
        if (i < 0 || i >= openings.size || i >= OPENINGS_MOST) return NONE;
        return what == 0 ? openings.from[i] : openings.lasting[i];
    }

    public int trouble(int set) {
        if (!isSet(set)) return UNKNOWN;
        int former = now.troubles;
        now.troubles = set;
        if ((set & FURRED) != 0 && (former & FURRED) == 0) {
            now.counts[FUR] = Math.max(now.counts[FUR], FUR_OF_TROUBLE);
        }
        return former;
    }

    public int fresh() {
        int former = now.counts[TICK];
        now.becomeFresh();
        return former;
    }

    public int current(boolean on) {
        int former = now.current ? 1 : 0;
        now.current = on;
        return former;
    }

    public int cover(boolean is) {
        int former = now.covered ? 1 : 0;
        now.covered = is;
        return former;
    }

    // ---- foods

    public int put(int s, int w, int c, int low, int high) {
        if (!isShelf(s)) return UNKNOWN;
        if (!canBeWarmth(w) || c < 1 || c > 200) return OUTSIDE;
        if (!canBeWarmth(low) || !canBeWarmth(high) || high < low) return OUTSIDE;
        int f = now.firstNotThere();
        if (f < 0) return FULL;
        now.lowest[f] = low;
        now.highest[f] = high;
        now.addFood(f, s, w, c);
        return f;
    }

    public int take(int f) {
        if (!now.hasFood(f)) return UNKNOWN;
        int warm = now.warmthOf(FIRST_FOOD + f);
        now.removeFood(f);
        return warm;
    }

    public int lay(int f, int s) {
        if (!now.hasFood(f) || !isShelf(s)) return UNKNOWN;
        int former = now.shelves[f];
        now.shelves[f] = s;
        return former;
    }

    public int food(int f, int what) {
        if (!now.hasFood(f)) return UNKNOWN;
        switch (what) {
            case 0: return now.shelves[f];
            case 1: return now.warmthOf(FIRST_FOOD + f);
            case 2: return now.caps[FIRST_FOOD + f];
            case 3: return now.lowest[f];
            case 4: return now.highest[f];
            case 5: return now.isWithin(f) ? 1 : 0;
            default: return OUTSIDE;
        }
    }

    // ---- ticks

    public int run(int n) {
        if (n < 1 || n > 2880) return OUTSIDE;
        int before = now.counts[TICKS_ON];
        ticker.passByDay(now, n, build.numbers[BULB]);
        return now.counts[TICKS_ON] - before;
    }

    public int drawn(int n, int m) {
        if (n < 1 || n > 10 || m < 0 || m > 20) return OUTSIDE;
        int before = now.counts[USED];
        for (int t = 0; t < n * DAY_TICKS; t++) {
            int ofDay = now.tickOfDay();
            if (t == 0 || ofDay == 0) drawDoor(m);
            ticker.pass(now, drawnDoor[ofDay], build.numbers[BULB], 0);
        }
        return now.counts[USED] - before;
    }

    public int warmth(int s) {
        return s < 0 || s > COIL ? UNKNOWN : now.warmthOf(s);
    }

    public long heat(int what) {
        if (what < 0 || what >= HEATS) return OUTSIDE;
        return what == 0 ? now.allHeat() : now.flowed[what];
    }

    public int count(int what) {
        if (what < 0 || what > 11) return OUTSIDE;
        if (what < COUNTS) return now.counts[what];
        switch (what) {
            case 8: return now.reading;
            case 9: return now.on ? 1 : 0;
            case 10: return now.foodsThere();
            default: return reader.length;
        }
    }

    public int thaw() {
        return now.letOffIce();
    }

    // ---- signs

    public int sign(int set, int n, int what) {
        if (!isSet(set) || !isSign(what)) return UNKNOWN;
        if (!areSignDays(n)) return OUTSIDE;
        freshRuns.learn(set, n);
        return freshRuns.signOf(set, n, what);
    }

    public int seen(int what, int v, int e) {
        if (!isSign(what)) return UNKNOWN;
        if (v < -99999 || v > 99999 || e < 1 || e > 999) return OUTSIDE;
        guess.isSeen[what] = true;
        guess.values[what] = v;
        guess.exact[what] = e;
        return guess.howManySeen();
    }

    public int forget() {
        int former = guess.howManySeen();
        for (int what = 0; what < SIGNS; what++) guess.isSeen[what] = false;
        return former;
    }

    public int prior(int k, int p) {
        if (!isTrouble(k)) return UNKNOWN;
        if (p < 0 || p > 1000) return OUTSIDE;
        int former = guess.priors[k];
        guess.priors[k] = p;
        return former;
    }

    public int bother(int what, int b) {
        if (!isSign(what)) return UNKNOWN;
        if (b < 0 || b > 999) return OUTSIDE;
        int former = guess.bothers[what];
        guess.bothers[what] = b;
        return former;
    }

    public int odds(int set, int n) {
        if (!isSet(set) || Integer.bitCount(set) > 2) return UNKNOWN;
        if (!areSignDays(n)) return OUTSIDE;
        freshRuns.learnCouldBe(n);
        return guess.oddsOf(set, n);
    }

    public int each(int k, int n) {
        if (!isTrouble(k)) return UNKNOWN;
        if (!areSignDays(n)) return OUTSIDE;
        freshRuns.learnCouldBe(n);
        return guess.oddsWith(k, n);
    }

    public int tells(int what, int n) {
        if (!isSign(what)) return UNKNOWN;
        if (!areSignDays(n)) return OUTSIDE;
        freshRuns.learnCouldBe(n);
        return guess.howMuchTells(what, n);
    }

    public int next(int n) {
        if (!areSignDays(n)) return OUTSIDE;
        freshRuns.learnCouldBe(n);
        return guess.nextSign(n);
    }

    public int makes(int set, int what) {
        if (!isSet(set)) return UNKNOWN;
        if (what < 0 || what > 1) return OUTSIDE;
        return freshRuns.firstDay(set, what == 0, now.current);
    }

    // ---- mending

    public int mending(int k, int c) {
        if (!isTrouble(k)) return UNKNOWN;
        if (c < 0 || c > 999) return OUTSIDE;
        int former = purse.costs[k];
        purse.costs[k] = c;
        return former;
    }

    public int price(int v) {
        if (!isPrice(v)) return OUTSIDE;
        int former = purse.coins;
        purse.coins = v;
        return former;
    }

    public int year(int set) {
        if (!isSet(set)) return UNKNOWN;
        freshRuns.learn(set, USE_DAYS);
        return purse.yearOf(set, now.current);
    }

    public int saves(int set, int part) {
        if (!isSet(set) || !isSet(part)) return UNKNOWN;
        if (!isPart(part, set)) return NOT;
        freshRuns.learn(set, USE_DAYS);
        freshRuns.learn(set & ~part, USE_DAYS);
        return purse.saved(set, part, now.current);
    }

    public int best(int set, int c, int what) {
        if (!isSet(set)) return UNKNOWN;
        if (c < 0 || c > 9999 || what < 0 || what > 2) return OUTSIDE;
        freshRuns.learnParts(set, USE_DAYS);
        int part = purse.bestPart(set, c, now.current);
        switch (what) {
            case 0: return part;
            case 1: return purse.saved(set, part, now.current);
            default: return purse.costOf(part);
        }
    }

    public int pays(int set, int c, int u) {
        if (!isSet(set)) return UNKNOWN;
        if (c < 0 || c > 99999 || u < 0 || u > 9999) return OUTSIDE;
        freshRuns.learn(set, USE_DAYS);
        return purse.yearsToPay(set, c, u, now.current);
    }

    public int ice(int set, int n, int b) {
        if (!isSet(set)) return UNKNOWN;
        if (n < 1 || n > ICE_DAYS || b < 0 || b > 999) return OUTSIDE;
        return purse.bestThawing(set, n, b, now.current);
    }

    // ---- lying, without current, stored

    public int lying(int f) {
        if (f != NONE && !now.hasFood(f)) return UNKNOWN;
        if (now.foodsThere() > LYING_FOODS) return NOT;
        trials.findBestRow();
        return f == NONE ? trials.most : trials.shelfInBestRow(f);
    }

    public int bulb(int what) {
        if (what < 0 || what > 1) return OUTSIDE;
        trials.findBestBulb();
        return what == 0 ? trials.bestChoice : trials.most;
    }

    public int without(int f) {
        return now.hasFood(f) ? trials.ticksWithoutCurrent(f) : UNKNOWN;
    }

    public int cheap(int a, int b, int v) {
        if (!isPrice(v)) return OUTSIDE;
        if (a != NONE && (a < 0 || b > HOURS || b <= a)) return OUTSIDE;
        trials.cheapFrom = a;
        trials.cheapTo = a == NONE ? NONE : b;
        trials.cheapPrice = v;
        return 1;
    }

    public int store(int n, int what) {
        if (n < 1 || n > SIGN_DAYS || what < 0 || what > 1) return OUTSIDE;
        trials.findBestStore(n, purse.coins);
        return what == 0 ? trials.bestChoice : trials.most;
    }

    // ---- draws, images

    public int seed(int v) {
        if (v < 0) return OUTSIDE;
        int former = now.seedNow;
        now.seedNow = v;
        return former;
    }

    public int keep(int i) {
        if (i < 0 || i > 1) return UNKNOWN;
        imageOf(i).copyFrom(now);
        kept[i] = true;
        return 1;
    }

    public int goBack(int i) {
        if (i < 0 || i > 1) return UNKNOWN;
        if (!kept[i]) return NOT;
        now.copyFrom(imageOf(i));
        return 1;
    }

    private State imageOf(int i) {
        return i == 0 ? image0 : image1;
    }

    private void drawDoor(int m) {
        for (int t = 0; t < DAY_TICKS; t++) drawnDoor[t] = false;
        for (int i = 0; i < m; i++) {
            int t = now.draw(DAY_TICKS);
            if (t >= 0 && t < DAY_TICKS) drawnDoor[t] = true;
        }
    }

    private static boolean isSet(int set) {
        return set >= 0 && set <= ALL_TROUBLES;
    }

    private static boolean isPart(int part, int set) {
        return (part & set) == part;
    }

    private static boolean isTrouble(int k) {
        return k >= 0 && k < TROUBLES;
    }

    private static boolean isSign(int what) {
        return what >= 0 && what < SIGNS;
    }

    private static boolean isShelf(int s) {
        return s >= 0 && s < SHELVES;
    }

    private static boolean isPrice(int v) {
        return v >= 0 && v <= 999;
    }

    private static boolean canBeWarmth(int w) {
        return w >= -3000 && w <= 9000;
    }

    private static boolean areSignDays(int n) {
        return n >= 1 && n <= SIGN_DAYS;
    }

    /** THE TEXT, and its reading into rows of its own: THE BOX and THE DAY take them only if there is no FAULT. */
    private static final class Reader {
        private final char[] text = new char[TEXT_MOST];
        private int length;
        private int at;
        private int fault;
        private int place = NONE;
        private int clauses;
        private final boolean[] isTold = new boolean[CLAUSES];
        private final int[] numbers = new int[BOX_NUMBERS];
        private final int[] from = new int[OPENINGS_MOST];
        private final int[] lasting = new int[OPENINGS_MOST];

        boolean append(int n, long bytes) {
            if (n > TEXT_MOST - length) return false;
            for (int i = n - 1; i >= 0; i--) {
                if (length < TEXT_MOST) text[length++] = (char) ((bytes >>> (8 * i)) & 255);
            }
            return true;
        }

        void readBox() {
            begin();
            for (int k = 0; k < CLAUSES; k++) isTold[k] = false;
            System.arraycopy(UNTOLD, 0, numbers, 0, BOX_NUMBERS);
            for (int i = 0; i <= TEXT_MOST && fault == 0 && at < length; i++) {
                readClause();
                skipBlanks();
            }
            if (fault == 0 && numbers[OFF] >= numbers[ON]) faultAt(4, length);
        }

        void readDay() {
            begin();
            for (int i = 0; i <= TEXT_MOST && fault == 0 && at < length; i++) {
                readOpening();
                skipBlanks();
            }
        }

        private void begin() {
            at = 0;
            fault = 0;
            place = NONE;
            clauses = 0;
            skipBlanks();
        }

        private void readClause() {
            int first = at;
            readWord();
            int clause = clauseFrom(first);
            if (clause < 0 || clause >= CLAUSES) {
                faultAt(1, first);
            } else if (isTold[clause]) {
                faultAt(3, first);
            } else {
                isTold[clause] = true;
                readClauseNumbers(clause);
                readClauseEnd();
            }
        }

        private void readClauseNumbers(int clause) {
            numbers[clause] = readNumber(LEAST[clause], MOST[clause]);
            if (clause == STOVE) {
                numbers[STOVE_B] = readNumber(numbers[STOVE_A] + 1, MOST[STOVE_B]);
                numbers[STOVE_N] = readNumber(LEAST[STOVE_N], MOST[STOVE_N]);
            }
        }

        private void readOpening() {
            int first = at;
            readWord();
            if (!isWord("open", first)) {
                faultAt(1, first);
            } else if (clauses >= OPENINGS_MOST) {
                faultAt(3, first);
            } else {
                int i = clauses;
                int above = i > 0 ? from[i - 1] + 1 : 0;
                from[i] = readNumber(above, DAY_TICKS - 1);
                lasting[i] = readNumber(1, OPEN_TICKS_MOST);
                readClauseEnd();
            }
        }

        private void readClauseEnd() {
            if (fault != 0) return;
            skipBlanks();
            if (at < length && text[at] == ';') {
                at++;
                clauses++;
            } else {
                faultAt(1, at);
            }
        }

        private int readNumber(int least, int most) {
            if (fault != 0) return 0;
            skipBlanks();
            int first = at;
            int value = 0;
            for (; at < length && isFigure(text[at]); at++) {
                if (at - first < FIGURES_MOST) value = value * 10 + (text[at] - '0');
            }
            if (at == first) {
                faultAt(1, first);
            } else if (at - first > FIGURES_MOST || value < least || value > most) {
                faultAt(2, first);
            }
            return value;
        }

        private void readWord() {
            for (; at < length && isLetter(text[at]); at++) continue;
        }

        private void skipBlanks() {
            for (; at < length && text[at] == ' '; at++) continue;
        }

        /** The clause whose word stands from first up to where reading is; NONE. */
        private int clauseFrom(int first) {
            for (int k = 0; k < CLAUSES; k++) {
                if (isWord(wordOf(k), first)) return k;
            }
            return NONE;
        }

        private boolean isWord(String word, int first) {
            if (at - first != word.length()) return false;
            for (int i = 0; i < word.length(); i++) {
                if (text[first + i] != word.charAt(i)) return false;
            }
            return true;
        }

        private void faultAt(int number, int where) {
            fault = number;
            place = where;
        }

        private static boolean isFigure(char c) {
            return c >= '0' && c <= '9';
        }

        private static boolean isLetter(char c) {
            return c >= 'a' && c <= 'z';
        }

        private static String wordOf(int clause) {
            switch (clause) {
                case POWER: return "power";
                case WALL: return "wall";
                case SEAL: return "seal";
                case MIX: return "mix";
                case COLD: return "cold";
                case FOOD: return "food";
                case ON: return "on";
                case OFF: return "off";
                case BULB: return "bulb";
                case USE: return "use";
                case LAMP: return "lamp";
                case ROOM: return "room";
                default: return "stove";
            }
        }
    }

    /** THE BOX. */
    private static final class Build {
        private final int[] numbers = new int[BOX_NUMBERS];

        Build() {
            System.arraycopy(UNTOLD, 0, numbers, 0, BOX_NUMBERS);
        }

        void copyFrom(int[] read) {
            if (read.length == BOX_NUMBERS) System.arraycopy(read, 0, numbers, 0, BOX_NUMBERS);
        }

        int sealOf(State s) {
            return s.has(AJAR) ? 4 * numbers[SEAL] + 12 : numbers[SEAL];
        }

        int powerOf(State s) {
            int power = numbers[POWER];
            if (s.has(FLUFFED)) power -= power * 50 / 100;
            if (s.has(SHORT)) power -= power * 45 / 100;
            return power;
        }

        int roomOf(State s) {
            int room = numbers[ROOM] * 10;
            int hour = s.tickOfDay() / HOUR_TICKS;
            boolean heats = numbers[STOVE_A] != NONE && numbers[STOVE_A] <= hour && hour < numbers[STOVE_B];
            if (heats) room += numbers[STOVE_N] * 10;
            return s.has(PLACED) ? room + 800 : room;
        }
    }

    /** THE DAY. */
    private static final class Openings {
        private int size;
        private final int[] from = new int[OPENINGS_MOST];
        private final int[] lasting = new int[OPENINGS_MOST];
        private final boolean[] open = new boolean[DAY_TICKS];

        void copyFrom(int n, int[] starts, int[] lasts) {
            for (int t = 0; t < DAY_TICKS; t++) open[t] = false;
            size = 0;
            for (int i = 0; i < n && i < OPENINGS_MOST && i < starts.length && i < lasts.length; i++) {
                from[i] = starts[i];
                lasting[i] = lasts[i];
                size = i + 1;
                for (int t = Math.max(from[i], 0); t < from[i] + lasting[i] && t < DAY_TICKS; t++) open[t] = true;
            }
        }

        boolean isOpenIn(int tickOfDay) {
            return tickOfDay >= 0 && tickOfDay < DAY_TICKS && open[tickOfDay];
        }
    }

    /** All that goes on from TICK to TICK, and that an IMAGE keeps. */
    private static final class State {
        private final long[] heats = new long[CELLS];
        private final int[] caps = new int[CELLS];
        private final boolean[] there = new boolean[FOODS];
        private final int[] shelves = new int[FOODS];
        private final int[] lowest = new int[FOODS];
        private final int[] highest = new int[FOODS];
        private final long[] flowed = new long[HEATS];
        private final int[] counts = new int[COUNTS];
        private int troubles;
        private int reading;
        private boolean on;
        private boolean covered;
        private boolean current;
        private int seedNow;

        void becomeFresh() {
            for (int s = 0; s < SHELVES; s++) {
                caps[s] = AIR_CAP;
                heats[s] = 500 * AIR_CAP;
            }
            caps[COIL] = COIL_CAP;
            heats[COIL] = -1000 * COIL_CAP;
            for (int f = 0; f < FOODS; f++) {
                there[f] = false;
                heats[FIRST_FOOD + f] = 0;
            }
            Arrays.fill(flowed, 0L);
            Arrays.fill(counts, 0);
            if (has(FURRED)) counts[FUR] = FUR_OF_TROUBLE;
            reading = 500;
            on = false;
            covered = false;
        }

        void copyFrom(State other) {
            System.arraycopy(other.heats, 0, heats, 0, CELLS);
            System.arraycopy(other.caps, 0, caps, 0, CELLS);
            System.arraycopy(other.there, 0, there, 0, FOODS);
            System.arraycopy(other.shelves, 0, shelves, 0, FOODS);
            System.arraycopy(other.lowest, 0, lowest, 0, FOODS);
            System.arraycopy(other.highest, 0, highest, 0, FOODS);
            System.arraycopy(other.flowed, 0, flowed, 0, HEATS);
            System.arraycopy(other.counts, 0, counts, 0, COUNTS);
            troubles = other.troubles;
            reading = other.reading;
            on = other.on;
            covered = other.covered;
            current = other.current;
            seedNow = other.seedNow;
        }

        boolean has(int trouble) {
            return (troubles & trouble) != 0;
        }

        int warmthOf(int cell) {
            if (cell < 0 || cell >= CELLS || caps[cell] < 1) return 0;
            return (int) (heats[cell] / caps[cell]);
        }

        int tickOfDay() {
            return counts[TICK] % DAY_TICKS;
        }

        long allHeat() {
            long sum = 0;
            for (int cell = 0; cell < FIRST_FOOD; cell++) sum += heats[cell];
            for (int f = 0; f < FOODS; f++) {
                if (there[f]) sum += heats[FIRST_FOOD + f];
            }
            return sum;
        }

        boolean hasFood(int f) {
            return f >= 0 && f < FOODS && there[f];
        }

        int firstNotThere() {
            for (int f = 0; f < FOODS; f++) {
                if (!there[f]) return f;
            }
            return NONE;
        }

        int foodsThere() {
            int n = 0;
            for (int f = 0; f < FOODS; f++) {
                if (there[f]) n++;
            }
            return n;
        }

        void addFood(int f, int shelf, int warm, int cap) {
            if (f < 0 || f >= FOODS) return;
            there[f] = true;
            shelves[f] = shelf;
            caps[FIRST_FOOD + f] = cap;
            heats[FIRST_FOOD + f] = (long) warm * cap;
            flowed[PUT_IN] += heats[FIRST_FOOD + f];
        }

        void removeFood(int f) {
            if (f < 0 || f >= FOODS) return;
            there[f] = false;
            flowed[TAKEN] += heats[FIRST_FOOD + f];
            heats[FIRST_FOOD + f] = 0;
        }

        boolean isWithin(int f) {
            int warm = warmthOf(FIRST_FOOD + f);
            return f >= 0 && f < FOODS && lowest[f] <= warm && warm <= highest[f];
        }

        int foodsWithin() {
            int n = 0;
            for (int f = 0; f < FOODS; f++) {
                if (there[f] && isWithin(f)) n++;
            }
            return n;
        }

        int letOffIce() {
            int fur = counts[FUR];
            counts[FUR] = 0;
            counts[DRAINED] += fur;
            for (int cell = 0; cell <= COIL; cell++) {
                long due = 1000L * caps[cell];
                if (warmthOf(cell) < 1000) {
                    flowed[CAME_IN] += due - heats[cell];
                    heats[cell] = due;
                }
            }
            return fur;
        }

        int draw(int n) {
            seedNow = (int) ((seedNow * 1103515245L + 12345L) & 0x7fffffffL);
            return n > 0 ? seedNow / 65536 % n : 0;
        }
    }

    /** One TICK after the other. */
    private static final class Ticker {
        private final Build build;
        private final Openings openings;
        private final int[] warms = new int[CELLS];
        private final long[] gains = new long[CELLS];

        Ticker(Build build, Openings openings) {
            this.build = build;
            this.openings = openings;
        }

        /** n TICKS with THE DOOR by THE DAY. */
        void passByDay(State s, int n, int bulb) {
            for (int t = 0; t < n; t++) pass(s, openings.isOpenIn(s.tickOfDay()), bulb, 0);
        }

        /** A TICK: the bulb on a SHELF, 'on' and 'off' by some tenths less. */
        void pass(State s, boolean open, int bulb, int less) {
            lookAtWarmths(s);
            int room = build.roomOf(s);
            int seal = build.sealOf(s);
            switchMachine(s, bulb, less);
            exchange(s, room, build.numbers[WALL] + seal + (open ? 60 : 0));
            if (s.current && (open || s.has(LIT))) giveLight(s);
            if (s.on) moveOut(s, build.powerOf(s) - (room - warms[COIL]) / 8);
            takeWet(s, seal + (open ? 20 : 0));
            s.counts[TICK]++;
        }

        /** All but the WET goes by WARMTH as it is at the TICK's beginning. */
        private void lookAtWarmths(State s) {
            for (int cell = 0; cell < CELLS; cell++) warms[cell] = s.warmthOf(cell);
        }

        private void switchMachine(State s, int bulb, int less) {
            int warm = bulb >= 0 && bulb < SHELVES ? warms[bulb] : 0;
            s.reading = s.covered ? s.reading + (warm - s.reading) / 8 : warm;
            boolean was = s.on;
            if (!s.current) {
                s.on = false;
            } else if (s.has(STUCK) || s.reading >= (build.numbers[ON] - less) * 10) {
                s.on = true;
            } else if (s.reading <= (build.numbers[OFF] - less) * 10) {
                s.on = false;
            }
            if (s.on && !was) s.counts[STARTS]++;
        }

        /** All FLOWS are reckoned before the first is done. */
        private void exchange(State s, int room, int leak) {
            Arrays.fill(gains, 0L);
            for (int shelf = 0; shelf < SHELVES; shelf++) {
                long in = (long) leak * (room - warms[shelf]) / 100;
                gains[shelf] += in;
                s.flowed[CAME_IN] += in;
            }
            for (int shelf = 0; shelf < SHELVES - 1; shelf++) flow(build.numbers[MIX], shelf, shelf + 1, 0);
            flow(build.numbers[COLD], 0, COIL, s.counts[FUR]);
            for (int f = 0; f < FOODS; f++) {
                if (s.there[f]) flow(build.numbers[FOOD], s.shelves[f], FIRST_FOOD + f, 0);
            }
            for (int cell = 0; cell < CELLS; cell++) s.heats[cell] += gains[cell];
        }

        private void flow(int ease, int from, int to, int fur) {
            if (from < 0 || from >= CELLS || to < 0 || to >= CELLS || fur < 0) return;
            long bare = (long) ease * (warms[from] - warms[to]) / 100;
            long much = bare * 1000 / (1000 + fur);
            gains[from] -= much;
            gains[to] += much;
        }

        private void giveLight(State s) {
            long given = build.numbers[LAMP] * 5L;
            s.heats[0] += given;
            s.flowed[BY_LAMP] += given;
            s.counts[USED] += build.numbers[LAMP];
        }

        private void moveOut(State s, int power) {
            int moved = Math.max(0, power);
            s.heats[COIL] -= moved;
            s.flowed[MOVED] += moved;
            s.counts[TICKS_ON]++;
            s.counts[USED] += build.numbers[USE];
        }

        /** By THE COIL's WARMTH of now, behind all that the TICK did to it. */
        private void takeWet(State s, int wet) {
            s.counts[WET] += wet;
            int coil = s.warmthOf(COIL);
            if (coil < 0) {
                int freezes = Math.min(wet, FUR_MOST - s.counts[FUR]);
                s.counts[FUR] += freezes;
                s.counts[PASSED] += wet - freezes;
            } else {
                int drains = Math.min(s.counts[FUR], coil / 20 + 1);
                s.counts[FUR] -= drains;
                s.counts[DRAINED] += drains;
                s.counts[PASSED] += wet;
            }
        }
    }

    /** Runs of a SET from FRESH on; SIGNS once learned stand until THE BOX or THE DAY is another. */
    private static final class FreshRuns {
        private final Ticker ticker;
        private final State tried = new State();
        private final int[] daysKnown = new int[ALL_TROUBLES + 1];
        private final int[] signs = new int[(ALL_TROUBLES + 1) * SIGN_DAYS * SIGNS];

        FreshRuns(Ticker ticker) {
            this.ticker = ticker;
        }

        void forgetSigns() {
            Arrays.fill(daysKnown, 0);
        }

        /** A SIGN that was learned before. */
        int signOf(int set, int n, int what) {
            if (!isSet(set) || !areSignDays(n) || !isSign(what)) return 0;
            return signs[placeOf(set, n) + what];
        }

        void learnCouldBe(int n) {
            for (int i = 0; i < COULD_BE.length; i++) learn(COULD_BE[i], n);
        }

        void learnParts(int set, int n) {
            for (int part = 0; part <= set; part++) {
                if (isPart(part, set)) learn(part, n);
            }
        }

        void learn(int set, int n) {
            if (!isSet(set) || !areSignDays(n) || daysKnown[set] >= n) return;
            begin(set, true);
            for (int d = 1; d <= n; d++) {
                int onBefore = tried.counts[TICKS_ON];
                int startsBefore = tried.counts[STARTS];
                int usedBefore = tried.counts[USED];
                ticker.passByDay(tried, DAY_TICKS, ticker.build.numbers[BULB]);
                int place = placeOf(set, d);
                signs[place] = tried.counts[TICKS_ON] - onBefore;
                signs[place + 1] = tried.counts[STARTS] - startsBefore;
                for (int s = 0; s < SHELVES; s++) signs[place + 2 + s] = tried.warmthOf(s);
                signs[place + 5] = tried.counts[FUR];
                signs[place + SIGN_USED] = tried.counts[USED] - usedBefore;
            }
            daysKnown[set] = n;
        }

        private static int placeOf(int set, int n) {
            return (set * SIGN_DAYS + n - 1) * SIGNS;
        }

        /** MAKES. */
        int firstDay(int set, boolean ofFur, boolean current) {
            begin(set, current);
            for (int d = 1; d <= MAKES_DAYS; d++) {
                int onBefore = tried.counts[TICKS_ON];
                ticker.passByDay(tried, DAY_TICKS, ticker.build.numbers[BULB]);
                boolean made = ofFur ? tried.counts[FUR] >= FUR_OF_TROUBLE
                    : tried.counts[TICKS_ON] - onBefore == DAY_TICKS;
                if (made) return d;
            }
            return NONE;
        }

        /** USED over n DAYS, THAWED every p of them (0: never). */
        int usedThawing(int set, int n, int p, boolean current) {
            begin(set, current);
            for (int d = 0; d < n; d++) {
                if (d > 0 && p > 0 && d % p == 0) tried.letOffIce();
                ticker.passByDay(tried, DAY_TICKS, ticker.build.numbers[BULB]);
            }
            return tried.counts[USED];
        }

        private void begin(int set, boolean current) {
            tried.troubles = set;
            tried.current = current;
            tried.becomeFresh();
        }
    }

    /** Which TROUBLES could be, by SIGNS that are SEEN. */
    private static final class Guess {
        private final FreshRuns runs;
        private final boolean[] isSeen = new boolean[SIGNS];
        private final int[] values = new int[SIGNS];
        private final int[] exact = new int[SIGNS];
        private final int[] priors = new int[TROUBLES];
        private final int[] bothers = new int[SIGNS];
        private final long[] weights = new long[COULD_BE.length];
        private final int[] classes = new int[COULD_BE.length];

        Guess(FreshRuns runs) {
            this.runs = runs;
            Arrays.fill(priors, 100);
            Arrays.fill(exact, EXACT_UNSEEN);
        }

        int howManySeen() {
            int n = 0;
            for (int what = 0; what < SIGNS; what++) {
                if (isSeen[what]) n++;
            }
            return n;
        }

        int oddsOf(int set, int n) {
            long all = weighAll(n);
            for (int i = 0; i < COULD_BE.length; i++) {
                if (COULD_BE[i] == set) return share(i, all);
            }
            return 0;
        }

        int oddsWith(int k, int n) {
            long all = weighAll(n);
            int sum = 0;
            for (int i = 0; i < COULD_BE.length; i++) {
                if ((COULD_BE[i] >> k & 1) != 0) sum += share(i, all);
            }
            return sum;
        }

        int howMuchTells(int what, int n) {
            return tellingBy(what, n, weighAll(n));
        }

        /** THE NEXT. */
        int nextSign(int n) {
            long all = weighAll(n);
            int found = NONE;
            int most = 0;
            for (int what = 0; what < SIGNS; what++) {
                if (isSeen[what]) continue;
                int worth = tellingBy(what, n, all) - bothers[what];
                if (found == NONE || worth > most) {
                    found = what;
                    most = worth;
                }
            }
            return found;
        }

        private int share(int i, long all) {
            return all > 0 && i >= 0 && i < weights.length ? (int) (MILLION * weights[i] / all) : 0;
        }

        /** Sets the row of WEIGHTS; all of them together. */
        private long weighAll(int n) {
            long all = 0;
            for (int i = 0; i < COULD_BE.length; i++) {
                weights[i] = weightOf(COULD_BE[i], n);
                all += weights[i];
            }
            return all;
        }

        private long weightOf(int set, int n) {
            long weight = MILLION;
            for (int k = 0; k < TROUBLES; k++) {
                weight = weight * ((set >> k & 1) != 0 ? priors[k] : 1000 - priors[k]) / 1000;
            }
            for (int what = 0; what < SIGNS; what++) {
                if (isSeen[what]) weight >>= halvings(set, n, what);
            }
            return weight;
        }

        private int halvings(int set, int n, int what) {
            int difference = Math.abs(values[what] - runs.signOf(set, n, what));
            return Math.min(HALVINGS_MOST, difference / exactOf(what));
        }

        private int exactOf(int what) {
            return isSeen[what] && exact[what] > 0 ? exact[what] : EXACT_UNSEEN;
        }

        private int tellingBy(int what, int n, long all) {
            if (all <= 0) return 0;
            for (int i = 0; i < classes.length; i++) classes[i] = runs.signOf(COULD_BE[i], n, what) / exactOf(what);
            long squares = 0;
            for (int i = 0; i < classes.length; i++) {
                if (isFirstOfClass(i)) {
                    long weight = weightOfClass(i);
                    squares += weight * weight;
                }
            }
            return (int) (1000 - 1000 * squares / (all * all));
        }

        private boolean isFirstOfClass(int i) {
            for (int j = 0; j < i; j++) {
                if (classes[j] == classes[i]) return false;
            }
            return true;
        }

        private long weightOfClass(int i) {
            long weight = 0;
            for (int j = i; j < classes.length; j++) {
                if (classes[j] == classes[i]) weight += weights[j];
            }
            return weight;
        }
    }

    /** What MENDING costs and saves. */
    private static final class Purse {
        private final FreshRuns runs;
        private final int[] costs = new int[TROUBLES];
        private int coins = 30;

        Purse(FreshRuns runs) {
            this.runs = runs;
            Arrays.fill(costs, 50);
        }

        /** YEAR of a SET whose SIGNS were learned; FRESH leaves the current as it is, and without it nothing is USED. */
        int yearOf(int set, boolean current) {
            return current ? yearByUse(runs.signOf(set, USE_DAYS, SIGN_USED)) : 0;
        }

        private int yearByUse(int used) {
            return (int) ((long) used * YEAR_DAYS * coins / 1000);
        }

        int saved(int set, int part, boolean current) {
            return yearOf(set, current) - yearOf(set & ~part, current);
        }

        int costOf(int part) {
            int sum = 0;
            for (int k = 0; k < TROUBLES; k++) {
                if ((part >> k & 1) != 0) sum += costs[k];
            }
            return sum;
        }

        /** THE BEST MENDING; parts come from the least on, so a like one must be cheaper to be taken. */
        int bestPart(int set, int c, boolean current) {
            int found = 0;
            int most = 0;
            int least = 0;
            for (int part = 1; part <= set; part++) {
                int cost = costOf(part);
                if (!isPart(part, set) || cost > c) continue;
                int saving = saved(set, part, current);
                if (saving > most || saving == most && cost < least) {
                    found = part;
                    most = saving;
                    least = cost;
                }
            }
            return found;
        }

        int yearsToPay(int set, int c, int u, boolean current) {
            long less = yearOf(set, current) - yearByUse(u);
            for (int y = 1; y <= YEARS_MOST; y++) {
                if (y * less >= c) return y;
            }
            return NONE;
        }

        /** THE ICE; a p of n DAYS or more never comes to thaw, and 0 does the same and is less. */
        int bestThawing(int set, int n, int b, boolean current) {
            int found = 0;
            long least = 0;
            for (int p = 0; p < n; p++) {
                long used = runs.usedThawing(set, n, p, current);
                int times = p > 0 ? (n - 1) / p : 0;
                long cost = used * coins / 1000 + (long) times * b;
                if (p == 0 || cost < least) {
                    found = p;
                    least = cost;
                }
            }
            return found;
        }
    }

    /** What would be from now on; what is so stays untouched. */
    private static final class Trials {
        private final Ticker ticker;
        private final State now;
        private final State tried = new State();
        private final int[] row = new int[FOODS];
        private int cheapFrom = NONE;
        private int cheapTo = NONE;
        private int cheapPrice;
        private int bestChoice;
        private int most;

        Trials(Ticker ticker, State now) {
            this.ticker = ticker;
            this.now = now;
        }

        /** Rows come in order, the first FOOD's SHELF changing last; of like ones the first stays. */
        void findBestRow() {
            int foods = now.foodsThere();
            int rows = 1;
            for (int i = 0; i < foods && i < LYING_FOODS; i++) rows *= SHELVES;
            bestChoice = 0;
            most = NONE;
            for (int r = 0; r < rows && most < foods * DAY_TICKS; r++) {
                tried.copyFrom(now);
                layByRow(r, tried.shelves);
                takeIfMore(r, withinOnSecondDay(boxBulb()));
            }
        }

        int shelfInBestRow(int f) {
            layByRow(bestChoice, row);
            return f >= 0 && f < FOODS ? row[f] : NONE;
        }

        private void layByRow(int r, int[] shelves) {
            int left = r;
            for (int f = FOODS - 1; f >= 0; f--) {
                if (now.there[f] && f < shelves.length) {
                    shelves[f] = left % SHELVES;
                    left /= SHELVES;
                }
            }
        }

        void findBestBulb() {
            bestChoice = 0;
            most = NONE;
            for (int shelf = 0; shelf < SHELVES; shelf++) {
                tried.copyFrom(now);
                takeIfMore(shelf, withinOnSecondDay(shelf));
            }
        }

        private void takeIfMore(int choice, int much) {
            if (much > most) {
                bestChoice = choice;
                most = much;
            }
        }

        private int withinOnSecondDay(int bulb) {
            int sum = 0;
            ticker.passByDay(tried, DAY_TICKS, bulb);
            for (int t = 0; t < DAY_TICKS; t++) {
                ticker.passByDay(tried, 1, bulb);
                sum += tried.foodsWithin();
            }
            return sum;
        }

        int ticksWithoutCurrent(int f) {
            tried.copyFrom(now);
            tried.current = false;
            for (int t = 0; t <= WITHOUT_TICKS; t++) {
                ticker.passByDay(tried, 1, boxBulb());
                if (!tried.isWithin(f)) return t;
            }
            return NONE;
        }

        /** THE STORE: what is paid stands in most; NONE in both if there is none. */
        void findBestStore(int n, int price) {
            bestChoice = NONE;
            most = NONE;
            for (int d = 0; d <= STORED_MOST; d += STORED_STEP) {
                int paid = paidStoring(n, d, price);
                if (paid != NONE && (bestChoice == NONE || paid < most)) {
                    bestChoice = d;
                    most = paid;
                }
            }
        }

        /** What is paid if STORED by d; NONE if a FOOD leaves its span. */
        private int paidStoring(int n, int d, int price) {
            int foods = now.foodsThere();
            long paid = 0;
            tried.copyFrom(now);
            for (int t = 0; t < n * DAY_TICKS; t++) {
                int ofDay = tried.tickOfDay();
                boolean isCheap = isCheapHour(ofDay / HOUR_TICKS);
                int before = tried.counts[USED];
                ticker.pass(tried, ticker.openings.isOpenIn(ofDay), boxBulb(), isCheap ? d : 0);
                if (tried.foodsWithin() < foods) return NONE;
                paid += (long) (tried.counts[USED] - before) * (isCheap ? cheapPrice : price);
            }
            return (int) (paid / 1000);
        }

        private boolean isCheapHour(int hour) {
            return cheapFrom != NONE && cheapFrom <= hour && hour < cheapTo;
        }

        private int boxBulb() {
            return ticker.build.numbers[BULB];
        }
    }
}
