import java.util.Arrays;

/** The glasses at the Seamen's Rest, the row that they tell, and the boats that sail by it. */
public final class GladGlasses {
    public static final int NONE = -1, UNKNOWN = -1000000001, OUTSIDE = -1000000002, NOT = -1000000003, FULL = -1000000004;

    private static final int GRANTED = 0;
    private static final int TEXT_MOST = 240;
    private static final int WEATHER_MOST = 12;
    private static final int GLASSES_MOST = 7;
    private static final int BOATS_MOST = 5;
    private static final int NUMBER_MOST = 9;
    private static final int TEMPER_MOST = 10;
    private static final int TEMPER_TRUE = 5;
    private static final int GLADNESS = 2;
    private static final int ROW_UNWEIGHED = 5;
    private static final int DRINKS_MOST = 20;
    private static final int DRINKS_UNTOLD = 3;
    private static final int CATCH_MOST = 999999;
    private static final int LOG_MOST = 20;
    private static final int DEEDS_MOST = 30;
    private static final int DAYS_A_CALL = 30;
    private static final int LAST_DAY = 9000;
    private static final int AHEAD_MOST = 60;
    private static final int LIMIT_DAYS = 14;
    private static final int LOSS_PRICE = 20;
    private static final int ERROR_DAYS = 12;
    private static final int TRIED_WEIGHT_MOST = 2;
    private static final int WEIGHINGS_MOST = 2187;
    private static final int ROW_SUM_MOST = GLASSES_MOST * NUMBER_MOST * NUMBER_MOST;
    private static final int FAR = 1000000;
    private static final int TAPS_MOST = 6;
    private static final int BOOK_MOST = 20;
    private static final int IMAGES = 2;
    private static final int ALL_WEATHERS = 1023;
    private static final int BILLION = 1000000000;
    private static final int SEED_MASK = 2147483647;

    private final Reader reader;
    private final Coast draft;
    private final Coast shore;
    private final State now;
    private final Row row;
    private final Fleet fleet;
    private final Tuning tuning;
    private final Notebook notebook;
    private final Deeds deeds;
    private final Images images;
    private int drawSeed;

    public GladGlasses() {
        reader = new Reader();
        draft = new Coast();
        shore = new Coast();
        now = new State();
        row = new Row(shore, now);
        fleet = new Fleet(shore, now, row);
        tuning = new Tuning(shore, now, row);
        notebook = new Notebook(shore, now, row);
        deeds = new Deeds();
        images = new Images();
        drawSeed = 0;
    }

    // ---- the coast

    public int feed(int letter) {
        if (isOut(letter, 0, 255)) {
            return OUTSIDE;
        }
        return reader.add(letter) ? reader.size : FULL;
    }

    public int coast() {
        int kind = reader.read(draft);
        if (kind != 0) {
            return -10 - kind;
        }
        shore.copyFrom(draft);
        now.begin(shore);
        notebook.clear();
        deeds.forget();
        images.forget();
        return shore.glasses;
    }

    public int fault() {
        return reader.faultAt;
    }

    public int told(int what) {
        switch (what) {
            case 0: return shore.days;
            case 1: return shore.glasses;
            case 2: return shore.boats;
            case 3: return reader.size;
            case 4: return now.dayNumber;
            case 5: return noCoast() ? NONE : row.telling(0);
            case 6: return now.drinks;
            case 7: return fleet.sailing();
            case 8: return now.lost;
            case 9: return now.held;
            case 10: return row.gladSet();
            case 11: return fleet.caughtInAll();
            case 12: return now.logSize;
            case 13: return notebook.taps;
            case 14: return notebook.entries;
            case 15: return deeds.count;
            default: return OUTSIDE;
        }
    }

    public int weather(int n) {
        int refusal = refuseAhead(n);
        return refusal != GRANTED ? refusal : row.weatherAhead(n);
    }

    public int glass(int g, int what) {
        if (noGlass(g)) {
            return UNKNOWN;
        }
        switch (what) {
            case 0: return now.temper[g];
            case 1: return now.weight[g];
            case 2: return row.reading(g, 0);
            case 3: return now.gladDays[g];
            default: return OUTSIDE;
        }
    }

    public int boat(int b, int what) {
        if (noBoat(b)) {
            return UNKNOWN;
        }
        switch (what) {
            case 0: return shore.limit[b];
            case 1: return shore.bears[b];
            case 2: return hasBit(now.lost, b) ? 0 : 1;
            case 3: return hasBit(now.held, b) ? 1 : 0;
            case 4: return now.caught[b];
            default: return OUTSIDE;
        }
    }

    public int logged(int i, int what) {
        if (isOut(what, 0, 2)) {
            return OUTSIDE;
        }
        return now.logEntry(i, what);
    }

    // ---- deeds

    public int day(int n) {
        int refusal = refuseDays(n);
        if (refusal != GRANTED) {
            return refusal;
        }
        for (int i = 0; i < n; i++) {
            deeds.remember(now);
            fleet.passDay();
        }
        return fleet.homeCount();
    }

    public int drink(int g) {
        if (noGlass(g)) {
            return UNKNOWN;
        }
        if (now.drinks <= 0 || now.temper[g] >= TEMPER_MOST) {
            return NOT;
        }
        deeds.remember(now);
        now.drinks--;
        now.temper[g]++;
        return now.temper[g];
    }

    public int keepFrom(int g) {
        if (noGlass(g)) {
            return UNKNOWN;
        }
        if (now.temper[g] <= 0) {
            return NOT;
        }
        deeds.remember(now);
        now.temper[g]--;
        return now.temper[g];
    }

    public int glad(int g, int n) {
        if (noGlass(g)) {
            return UNKNOWN;
        }
        if (isOut(n, 0, AHEAD_MOST)) {
            return OUTSIDE;
        }
        deeds.remember(now);
        int before = now.gladDays[g];
        now.gladDays[g] = n;
        return before;
    }

    public int weigh(int g, int n) {
        if (noGlass(g)) {
            return UNKNOWN;
        }
        if (isOut(n, 0, NUMBER_MOST)) {
            return OUTSIDE;
        }
        deeds.remember(now);
        int before = now.weight[g];
        now.weight[g] = n;
        return before;
    }

    public int hold(int b, boolean is) {
        if (noBoat(b)) {
            return UNKNOWN;
        }
        deeds.remember(now);
        int before = hasBit(now.held, b) ? 1 : 0;
        now.held = is ? now.held | 1 << b : now.held & ~(1 << b);
        return before;
    }

    public int find(int b) {
        if (noBoat(b)) {
            return UNKNOWN;
        }
        if (!hasBit(now.lost, b)) {
            return NOT;
        }
        deeds.remember(now);
        now.lost = now.lost & ~(1 << b);
        return Integer.bitCount(now.lost);
    }

    public int drift(int n) {
        int refusal = refuseDays(n);
        if (refusal != GRANTED) {
            return refusal;
        }
        for (int i = 0; i < n; i++) {
            deeds.remember(now);
            moveByDraw();
            fleet.passDay();
        }
        return fleet.homeCount();
    }

    public int undo(int n) {
        if (isOut(n, 1, DEEDS_MOST)) {
            return OUTSIDE;
        }
        return deeds.takeBack(n, now) ? now.dayNumber : NOT;
    }

    // ---- tried

    public int tells(int n) {
        int refusal = refuseAhead(n);
        return refusal != GRANTED ? refusal : row.telling(n);
    }

    public int catches(int b, int n) {
        if (noBoat(b)) {
            return UNKNOWN;
        }
        if (isOut(n, 0, AHEAD_MOST)) {
            return OUTSIDE;
        }
        return fleet.catchWithin(b, n);
    }

    public int loses(int n) {
        if (isOut(n, 0, AHEAD_MOST)) {
            return OUTSIDE;
        }
        return fleet.lostWithin(n);
    }

    public int bestLimit(int b, int what) {
        if (noBoat(b)) {
            return UNKNOWN;
        }
        if (isOut(what, 0, 1)) {
            return OUTSIDE;
        }
        fleet.tryLimits(b);
        return what == 0 ? fleet.limitOfMost : fleet.worthOfMost;
    }

    public int error(int g) {
        int refusal = refuseGlassOrRow(g);
        if (refusal != GRANTED) {
            return refusal;
        }
        return g == NONE ? tuning.rowError() : tuning.glassError(g);
    }

    public int truest(int what) {
        if (isOut(what, 0, 1)) {
            return OUTSIDE;
        }
        int g = tuning.glassOfLeastError();
        return g == NONE || what == 0 ? g : tuning.glassError(g);
    }

    public int bestWeights(int g) {
        int refusal = refuseGlassOrRow(g);
        if (refusal != GRANTED) {
            return refusal;
        }
        int least = tuning.weighBest();
        return g == NONE ? least : tuning.bestWeight[g];
    }

    public int steps(int r) {
        if (isOut(r, 0, NUMBER_MOST)) {
            return OUTSIDE;
        }
        return noCoast() ? NOT : tuning.fewestSteps(r);
    }

    public int allTrue(int set, int what) {
        if ((set & ~((1 << shore.glasses) - 1)) != 0) {
            return UNKNOWN;
        }
        switch (what) {
            case 0: return tuning.drinksShort(set);
            case 1: return tuning.drinksOver(set);
            case 2: return tuning.daysToGive(tuning.drinksShort(set));
            default: return OUTSIDE;
        }
    }

    public int differ(int what) {
        if (isOut(what, 0, 1)) {
            return OUTSIDE;
        }
        int pair = row.mostUnlike();
        return pair == NONE || what == 0 ? pair : row.apart(pair / 100, pair % 100);
    }

    public int fair(int g, int m) {
        if (isOut(g, 0, NUMBER_MOST) || isOut(m, 1, WEATHER_MOST)) {
            return OUTSIDE;
        }
        return noCoast() ? NOT : row.firstFair(g, m);
    }

    public int falseOnes() {
        return row.falseSet();
    }

    public int holds(int w) {
        if (isOut(w, 0, NUMBER_MOST)) {
            return OUTSIDE;
        }
        return now.rulesThatHold(w);
    }

    public int homeBy(int n, int q) {
        if (isOut(n, 0, AHEAD_MOST) || isOut(q, 0, 100)) {
            return OUTSIDE;
        }
        long odds = BILLION;
        for (int i = 0; i < n; i++) {
            odds = odds * (100 - q) / 100;
        }
        return (int) odds;
    }

    // ---- what was tapped

    public int tap(int g, int x) {
        if (noGlass(g)) {
            return UNKNOWN;
        }
        if (isOut(x, 0, NUMBER_MOST)) {
            return OUTSIDE;
        }
        return notebook.addTap(g, x) ? notebook.taps : FULL;
    }

    public int could() {
        return notebook.fitting();
    }

    public int tapNext() {
        return notebook.bestToTap();
    }

    public int write(int g, int temper) {
        if (noGlass(g)) {
            return UNKNOWN;
        }
        if (isOut(temper, 0, TEMPER_MOST)) {
            return OUTSIDE;
        }
        return notebook.addEntry(g, temper) ? notebook.entries : FULL;
    }

    public int judge() {
        return notebook.firstWrong();
    }

    public int tear() {
        int had = notebook.taps + notebook.entries;
        notebook.clear();
        return had;
    }

    // ---- images

    public int seed(int v) {
        if (v < 0) {
            return OUTSIDE;
        }
        int before = drawSeed;
        drawSeed = v;
        return before;
    }

    public int keep(int i) {
        if (isOut(i, 0, IMAGES - 1)) {
            return UNKNOWN;
        }
        images.take(i, now, drawSeed);
        deeds.forget();
        return 1;
    }

    public int goBack(int i) {
        if (isOut(i, 0, IMAGES - 1)) {
            return UNKNOWN;
        }
        if (!images.has(i)) {
            return NOT;
        }
        images.give(i, now);
        drawSeed = images.seeds[i];
        deeds.forget();
        return 1;
    }

    // ---- what the calls share

    private boolean noCoast() {
        return shore.days == 0;
    }

    private boolean noGlass(int g) {
        return isOut(g, 0, shore.glasses - 1);
    }

    private boolean noBoat(int b) {
        return isOut(b, 0, shore.boats - 1);
    }

    private int refuseAhead(int n) {
        if (isOut(n, 0, AHEAD_MOST)) {
            return OUTSIDE;
        }
        return noCoast() ? NOT : GRANTED;
    }

    private int refuseDays(int n) {
        if (isOut(n, 1, DAYS_A_CALL)) {
            return OUTSIDE;
        }
        if (noCoast()) {
            return NOT;
        }
        return now.dayNumber > LAST_DAY ? FULL : GRANTED;
    }

    private int refuseGlassOrRow(int g) {
        if (g != NONE && noGlass(g)) {
            return UNKNOWN;
        }
        return noCoast() ? NOT : GRANTED;
    }

    private void moveByDraw() {
        if (shore.glasses == 0) {
            return;
        }
        int g = draw(shore.glasses);
        switch (draw(4)) {
            case 0:
                now.temper[g] = Math.min(now.temper[g] + 1, TEMPER_MOST);
                break;
            case 1:
                now.temper[g] = Math.max(now.temper[g] - 1, 0);
                break;
            case 2:
                now.gladDays[g] = draw(4);
                break;
            default:
                break;
        }
    }

    // The int product wraps, and its lowest 31 bits are those of the whole one.
    private int draw(int n) {
        drawSeed = drawSeed * 1103515245 + 12345 & SEED_MASK;
        return n <= 0 ? 0 : drawSeed / 65536 % n;
    }

    private static boolean isOut(int value, int least, int most) {
        return value < least || value > most;
    }

    private static boolean hasBit(int set, int k) {
        return (set >> k & 1) != 0;
    }

    /** What a text says of a coast; without days of weather there is no coast. */
    private static final class Coast {
        int days;
        int glasses;
        int boats;
        int drinksADay;
        boolean drinksTold;
        final int[] weathers = new int[WEATHER_MOST];
        final int[] temper = new int[GLASSES_MOST];
        final int[] weight = new int[GLASSES_MOST];
        final int[] limit = new int[BOATS_MOST];
        final int[] bears = new int[BOATS_MOST];

        void clear() {
            days = 0;
            glasses = 0;
            boats = 0;
            drinksADay = 0;
            drinksTold = false;
        }

        void copyFrom(Coast other) {
            days = other.days;
            glasses = other.glasses;
            boats = other.boats;
            drinksADay = other.drinksADay;
            drinksTold = other.drinksTold;
            System.arraycopy(other.weathers, 0, weathers, 0, WEATHER_MOST);
            System.arraycopy(other.temper, 0, temper, 0, GLASSES_MOST);
            System.arraycopy(other.weight, 0, weight, 0, GLASSES_MOST);
            System.arraycopy(other.limit, 0, limit, 0, BOATS_MOST);
            System.arraycopy(other.bears, 0, bears, 0, BOATS_MOST);
        }

        void addWeather(int number) {
            if (days < WEATHER_MOST) {
                weathers[days] = number;
                days++;
            }
        }

        void addGlass(int itsTemper, int itsWeight) {
            if (glasses < GLASSES_MOST) {
                temper[glasses] = itsTemper;
                weight[glasses] = itsWeight;
                glasses++;
            }
        }

        void addBoat(int itsLimit, int itsBears) {
            if (boats < BOATS_MOST) {
                limit[boats] = itsLimit;
                bears[boats] = itsBears;
                boats++;
            }
        }

        void tellDrinks(int number) {
            drinksADay = number;
            drinksTold = true;
        }
    }

    /** Keeps the text and reads a coast from it, up to the first fault. */
    private static final class Reader {
        static final int CANNOT_STAND = 1, BAD_NUMBER = 2, TOO_MANY = 3;
        static final int END = -1;

        final int[] letters = new int[TEXT_MOST];
        int size = 0;
        int at = 0;
        int faultKind = 0;
        int faultAt = NONE;

        boolean add(int letter) {
            if (size >= TEXT_MOST) {
                return false;
            }
            letters[size] = letter;
            size++;
            return true;
        }

        int read(Coast into) {
            into.clear();
            at = 0;
            faultKind = 0;
            faultAt = NONE;
            for (int clause = 0; clause < TEXT_MOST && faultKind == 0 && nextSign() != END; clause++) {
                readClause(into);
            }
            if (into.days > 0 && !into.drinksTold) {
                into.drinksADay = DRINKS_UNTOLD;
            }
            size = 0;
            return faultKind;
        }

        private void readClause(Coast into) {
            int word = nextSign();
            int kind = wordFault(into, word);
            if (kind != 0) {
                fail(kind, at);
                return;
            }
            at++;
            switch (word) {
                case 'w':
                    readWeathers(into);
                    break;
                case 'g':
                    readGlass(into);
                    break;
                case 'b':
                    readBoat(into);
                    break;
                default:
                    readDrinks(into);
                    break;
            }
        }

        private int wordFault(Coast into, int word) {
            if (word != 'w' && into.days == 0) {
                return CANNOT_STAND;
            }
            switch (word) {
                case 'w': return into.days > 0 ? TOO_MANY : 0;
                case 'g': return into.glasses >= GLASSES_MOST ? TOO_MANY : 0;
                case 'b': return into.boats >= BOATS_MOST ? TOO_MANY : 0;
                case 'd': return into.drinksTold ? TOO_MANY : 0;
                default: return CANNOT_STAND;
            }
        }

        private void readWeathers(Coast into) {
            for (int i = 0; i < WEATHER_MOST; i++) {
                int number = readNumber(NUMBER_MOST);
                if (faultKind != 0) {
                    return;
                }
                into.addWeather(number);
                if (nextSign() != ',' || into.days >= WEATHER_MOST) {
                    readEnd();
                    return;
                }
                at++;
            }
        }

        private void readGlass(Coast into) {
            int temper = readNumber(TEMPER_MOST);
            int weight = readNumber(NUMBER_MOST);
            readEnd();
            if (faultKind == 0) {
                into.addGlass(temper, weight);
            }
        }

        private void readBoat(Coast into) {
            int limit = readNumber(NUMBER_MOST);
            int bears = readNumber(NUMBER_MOST);
            readEnd();
            if (faultKind == 0) {
                into.addBoat(limit, bears);
            }
        }

        private void readDrinks(Coast into) {
            int number = readNumber(DRINKS_MOST);
            readEnd();
            if (faultKind == 0) {
                into.tellDrinks(number);
            }
        }

        private int readNumber(int most) {
            int first = nextSign();
            if (!isFigure(first)) {
                fail(CANNOT_STAND, at);
                return 0;
            }
            int start = at;
            int value = 0;
            while (at < size && isFigure(letters[at])) {
                // A value that is too high already stays so, and cannot wrap around.
                value = Math.min(value * 10 + letters[at] - '0', FAR);
                at++;
            }
            if (at - start > 3 || value > most) {
                fail(BAD_NUMBER, start);
            }
            return value;
        }

        private void readEnd() {
            if (nextSign() == ';') {
                at++;
            } else {
                fail(CANNOT_STAND, at);
            }
        }

        // Only the first fault counts: reading goes on behind it just to the clause's end.
        private void fail(int kind, int where) {
            if (faultKind == 0) {
                faultKind = kind;
                faultAt = where;
            }
        }

        private int nextSign() {
            while (at < size && letters[at] == ' ') {
                at++;
            }
            return at < size ? letters[at] : END;
        }

        private static boolean isFigure(int sign) {
            return sign >= '0' && sign <= '9';
        }
    }

    /** All that days and deeds change. */
    private static final class State {
        int dayNumber;
        int drinks;
        int lost;
        int held;
        final int[] temper = new int[GLASSES_MOST];
        final int[] weight = new int[GLASSES_MOST];
        final int[] gladDays = new int[GLASSES_MOST];
        final int[] caught = new int[BOATS_MOST];
        int logSize;
        int logNext;
        final int[] logTold = new int[LOG_MOST];
        final int[] logWeather = new int[LOG_MOST];
        final int[] logSailed = new int[LOG_MOST];

        void begin(Coast coast) {
            dayNumber = 0;
            drinks = coast.drinksADay;
            lost = 0;
            held = 0;
            System.arraycopy(coast.temper, 0, temper, 0, GLASSES_MOST);
            System.arraycopy(coast.weight, 0, weight, 0, GLASSES_MOST);
            Arrays.fill(gladDays, 0);
            Arrays.fill(caught, 0);
            logSize = 0;
            logNext = 0;
        }

        void copyFrom(State other) {
            dayNumber = other.dayNumber;
            drinks = other.drinks;
            lost = other.lost;
            held = other.held;
            System.arraycopy(other.temper, 0, temper, 0, GLASSES_MOST);
            System.arraycopy(other.weight, 0, weight, 0, GLASSES_MOST);
            System.arraycopy(other.gladDays, 0, gladDays, 0, GLASSES_MOST);
            System.arraycopy(other.caught, 0, caught, 0, BOATS_MOST);
            logSize = other.logSize;
            logNext = other.logNext;
            System.arraycopy(other.logTold, 0, logTold, 0, LOG_MOST);
            System.arraycopy(other.logWeather, 0, logWeather, 0, LOG_MOST);
            System.arraycopy(other.logSailed, 0, logSailed, 0, LOG_MOST);
        }

        void addToLog(int told, int weather, int sailed) {
            logTold[logNext] = told;
            logWeather[logNext] = weather;
            logSailed[logNext] = sailed;
            logNext = (logNext + 1) % LOG_MOST;
            logSize = Math.min(logSize + 1, LOG_MOST);
        }

        int logEntry(int i, int what) {
            if (i < 0 || i >= logSize) {
                return NONE;
            }
            int place = (logNext - 1 - i + 2 * LOG_MOST) % LOG_MOST;
            switch (what) {
                case 0: return logTold[place];
                case 1: return logWeather[place];
                default: return logSailed[place];
            }
        }

        // A day of worse weather breaks the rule for each number up to what the row told then.
        int rulesThatHold(int w) {
            int broken = NONE;
            for (int i = 0; i < logSize; i++) {
                if (logWeather[i] < w) {
                    broken = Math.max(broken, logTold[i]);
                }
            }
            int set = 0;
            for (int r = broken + 1; r <= NUMBER_MOST; r++) {
                set |= 1 << r;
            }
            return set;
        }
    }

    /** What is so ahead of each of the latest deeds. */
    private static final class Deeds {
        final State[] before = new State[DEEDS_MOST];
        int count = 0;
        int next = 0;

        Deeds() {
            for (int i = 0; i < DEEDS_MOST; i++) {
                before[i] = new State();
            }
        }

        void remember(State state) {
            before[next].copyFrom(state);
            next = (next + 1) % DEEDS_MOST;
            count = Math.min(count + 1, DEEDS_MOST);
        }

        boolean takeBack(int n, State state) {
            if (n < 1 || n > count) {
                return false;
            }
            next = (next - n + DEEDS_MOST) % DEEDS_MOST;
            count -= n;
            state.copyFrom(before[next]);
            return true;
        }

        void forget() {
            count = 0;
        }
    }

    /** Images to go on from. */
    private static final class Images {
        final State[] states = new State[IMAGES];
        final int[] seeds = new int[IMAGES];
        int kept = 0;

        Images() {
            for (int i = 0; i < IMAGES; i++) {
                states[i] = new State();
            }
        }

        boolean has(int i) {
            return hasBit(kept, i);
        }

        void take(int i, State state, int drawSeed) {
            states[i].copyFrom(state);
            seeds[i] = drawSeed;
            kept |= 1 << i;
        }

        void give(int i, State state) {
            state.copyFrom(states[i]);
        }

        void forget() {
            kept = 0;
        }
    }

    /** What the glasses read and the row tells, today or some days ahead. */
    private static final class Row {
        final Coast coast;
        final State now;

        Row(Coast coast, State now) {
            this.coast = coast;
            this.now = now;
        }

        int weatherAhead(int n) {
            int k = now.dayNumber + n;
            return coast.days <= 0 || k < 0 ? 0 : coast.weathers[k % coast.days];
        }

        // Tempers and weights stay while days pass; gladness runs out.
        int reading(int g, int ahead) {
            return clearReading(weatherAhead(ahead + 1) + now.temper[g], now.gladDays[g] > ahead);
        }

        int readingBy(int g, int weather) {
            return clearReading(weather + now.temper[g], now.gladDays[g] > 0);
        }

        static int clearReading(int weatherAndTemper, boolean isGlad) {
            int raw = weatherAndTemper - TEMPER_TRUE + (isGlad ? GLADNESS : 0);
            return Math.max(0, Math.min(raw, NUMBER_MOST));
        }

        int telling(int ahead) {
            int sum = 0;
            int weights = 0;
            for (int g = 0; g < coast.glasses; g++) {
                sum += now.weight[g] * reading(g, ahead);
                weights += now.weight[g];
            }
            return tellingOf(sum, weights);
        }

        static int tellingOf(int sum, int weights) {
            return weights <= 0 ? ROW_UNWEIGHED : sum / weights;
        }

        int gladSet() {
            int set = 0;
            for (int g = 0; g < coast.glasses; g++) {
                if (now.gladDays[g] > 0) {
                    set |= 1 << g;
                }
            }
            return set;
        }

        int falseSet() {
            int tomorrow = weatherAhead(1);
            int set = 0;
            for (int g = 0; g < coast.glasses; g++) {
                if (reading(g, 0) != clearReading(tomorrow + now.temper[g], false)) {
                    set |= 1 << g;
                }
            }
            return set;
        }

        int apart(int one, int other) {
            return Math.abs(reading(one, 0) - reading(other, 0));
        }

        int mostUnlike() {
            int pair = NONE;
            int most = NONE;
            for (int one = 0; one < coast.glasses; one++) {
                for (int other = one + 1; other < coast.glasses; other++) {
                    int is = apart(one, other);
                    if (is > most) {
                        most = is;
                        pair = 100 * one + other;
                    }
                }
            }
            return pair;
        }

        int firstFair(int least, int length) {
            int fairDays = 0;
            for (int k = 0; k < AHEAD_MOST + length; k++) {
                fairDays = weatherAhead(k) >= least ? fairDays + 1 : 0;
                if (fairDays == length) {
                    return k - length + 1;
                }
            }
            return NONE;
        }
    }

    /** The boats: who sails as a day passes, and what comes of it, tried. */
    private static final class Fleet {
        final Coast coast;
        final State now;
        final Row row;
        final int[] rowAhead = new int[AHEAD_MOST];
        final int[] weatherThen = new int[AHEAD_MOST];
        int limitOfMost = 0;
        int worthOfMost = 0;

        Fleet(Coast coast, State now, Row row) {
            this.coast = coast;
            this.now = now;
            this.row = row;
        }

        int homeCount() {
            return coast.boats - Integer.bitCount(now.lost);
        }

        int caughtInAll() {
            int sum = 0;
            for (int b = 0; b < coast.boats; b++) {
                sum += now.caught[b];
            }
            return sum;
        }

        boolean isReady(int b) {
            return !hasBit(now.lost | now.held, b);
        }

        int sailing() {
            int told = row.telling(0);
            int set = 0;
            for (int b = 0; b < coast.boats; b++) {
                if (isReady(b) && told >= coast.limit[b]) {
                    set |= 1 << b;
                }
            }
            return set;
        }

        void passDay() {
            int told = row.telling(0);
            int tomorrow = row.weatherAhead(1);
            int out = sailing();
            for (int b = 0; b < coast.boats; b++) {
                if (hasBit(out, b)) {
                    sail(b, tomorrow);
                }
            }
            now.addToLog(told, tomorrow, Integer.bitCount(out));
            for (int g = 0; g < coast.glasses; g++) {
                now.gladDays[g] = Math.max(now.gladDays[g] - 1, 0);
            }
            now.drinks = coast.drinksADay;
            now.dayNumber++;
        }

        private void sail(int b, int weather) {
            if (weather < coast.bears[b]) {
                now.lost |= 1 << b;
            } else {
                now.caught[b] = Math.min(now.caught[b] + weather, CATCH_MOST);
            }
        }

        // No boat changes what the row tells, so one look ahead serves for all of them.
        private void lookAhead(int n) {
            for (int k = 0; k < n && k < AHEAD_MOST; k++) {
                rowAhead[k] = row.telling(k);
                weatherThen[k] = row.weatherAhead(k + 1);
            }
        }

        // How many days end well, of the n that were looked at: n if it is not lost.
        private int safeDays(int b, int limit, int n) {
            for (int k = 0; k < n && k < AHEAD_MOST; k++) {
                if (rowAhead[k] >= limit && weatherThen[k] < coast.bears[b]) {
                    return k;
                }
            }
            return n;
        }

        private int haul(int b, int limit, int n) {
            int sum = now.caught[b];
            for (int k = 0; k < n && k < AHEAD_MOST; k++) {
                if (rowAhead[k] >= limit) {
                    sum = Math.min(sum + weatherThen[k], CATCH_MOST);
                }
            }
            return sum - now.caught[b];
        }

        int catchWithin(int b, int n) {
            if (!isReady(b)) {
                return 0;
            }
            lookAhead(n);
            int limit = coast.limit[b];
            return haul(b, limit, safeDays(b, limit, n));
        }

        int lostWithin(int n) {
            lookAhead(n);
            int set = 0;
            for (int b = 0; b < coast.boats; b++) {
                if (isReady(b) && safeDays(b, coast.limit[b], n) < n) {
                    set |= 1 << b;
                }
            }
            return set;
        }

        void tryLimits(int b) {
            lookAhead(LIMIT_DAYS);
            for (int limit = 0; limit <= NUMBER_MOST; limit++) {
                int safe = safeDays(b, limit, LIMIT_DAYS);
                int worth = haul(b, limit, safe) - (safe < LIMIT_DAYS ? LOSS_PRICE : 0);
                if (limit == 0 || worth > worthOfMost) {
                    limitOfMost = limit;
                    worthOfMost = worth;
                }
            }
        }
    }

    /** How well glasses and row tell the weather, and what would mend them. */
    private static final class Tuning {
        final Coast coast;
        final State now;
        final Row row;
        final int[] reads = new int[GLASSES_MOST * ERROR_DAYS];
        final int[] weatherThen = new int[ERROR_DAYS];
        final int[] sums = new int[ERROR_DAYS];
        final int[] triedWeight = new int[GLASSES_MOST];
        final int[] bestWeight = new int[GLASSES_MOST];
        int triedTotal = 0;
        final int[] stepsToRead = new int[NUMBER_MOST + 1];
        int[] stepsToSum = new int[ROW_SUM_MOST + 1];
        int[] stepsToNext = new int[ROW_SUM_MOST + 1];

        Tuning(Coast coast, State now, Row row) {
            this.coast = coast;
            this.now = now;
            this.row = row;
        }

        int glassError(int g) {
            int sum = 0;
            for (int k = 0; k < ERROR_DAYS; k++) {
                sum += Math.abs(row.reading(g, k) - row.weatherAhead(k + 1));
            }
            return sum;
        }

        int rowError() {
            int sum = 0;
            for (int k = 0; k < ERROR_DAYS; k++) {
                sum += Math.abs(row.telling(k) - row.weatherAhead(k + 1));
            }
            return sum;
        }

        int glassOfLeastError() {
            int best = NONE;
            int least = FAR;
            for (int g = 0; g < coast.glasses; g++) {
                int is = glassError(g);
                if (is < least) {
                    least = is;
                    best = g;
                }
            }
            return best;
        }

        // Goes through all weighings in their order, the last glass's weight changing fastest.
        int weighBest() {
            startWeighing();
            int least = FAR;
            boolean isMore = true;
            for (int turn = 0; turn < WEIGHINGS_MOST && isMore && least > 0; turn++) {
                int is = triedError(least);
                if (is < least) {
                    least = is;
                    System.arraycopy(triedWeight, 0, bestWeight, 0, GLASSES_MOST);
                }
                isMore = nextWeighing();
            }
            return least;
        }

        private void startWeighing() {
            Arrays.fill(triedWeight, 0);
            Arrays.fill(sums, 0);
            triedTotal = 0;
            for (int k = 0; k < ERROR_DAYS; k++) {
                weatherThen[k] = row.weatherAhead(k + 1);
                for (int g = 0; g < coast.glasses; g++) {
                    reads[g * ERROR_DAYS + k] = row.reading(g, k);
                }
            }
        }

        // Most weighings are soon seen to be no better, and need not be gone through.
        private int triedError(int enough) {
            int sum = 0;
            for (int k = 0; k < ERROR_DAYS && sum < enough; k++) {
                sum += Math.abs(Row.tellingOf(sums[k], triedTotal) - weatherThen[k]);
            }
            return sum;
        }

        private boolean nextWeighing() {
            for (int g = coast.glasses - 1; g >= 0; g--) {
                if (triedWeight[g] < TRIED_WEIGHT_MOST) {
                    addWeight(g, 1);
                    return true;
                }
                addWeight(g, -TRIED_WEIGHT_MOST);
            }
            return false;
        }

        private void addWeight(int g, int more) {
            triedWeight[g] += more;
            triedTotal += more;
            for (int k = 0; k < ERROR_DAYS; k++) {
                sums[k] += more * reads[g * ERROR_DAYS + k];
            }
        }

        // Glass by glass: the fewest steps to each sum that the weighed readings can have.
        int fewestSteps(int r) {
            Arrays.fill(stepsToSum, FAR);
            stepsToSum[0] = 0;
            int weights = 0;
            for (int g = 0; g < coast.glasses; g++) {
                if (now.weight[g] > 0) {
                    countStepsToReads(g);
                    addToSums(weights * NUMBER_MOST, now.weight[g]);
                    weights += now.weight[g];
                }
            }
            if (weights == 0) {
                return r == ROW_UNWEIGHED ? 0 : NONE;
            }
            int least = FAR;
            for (int sum = r * weights; sum < (r + 1) * weights && sum <= ROW_SUM_MOST; sum++) {
                least = Math.min(least, stepsToSum[sum]);
            }
            return least < FAR ? least : NONE;
        }

        private void countStepsToReads(int g) {
            int tomorrow = row.weatherAhead(1);
            Arrays.fill(stepsToRead, FAR);
            for (int temper = 0; temper <= TEMPER_MOST; temper++) {
                int read = Row.clearReading(tomorrow + temper, now.gladDays[g] > 0);
                stepsToRead[read] = Math.min(stepsToRead[read], Math.abs(temper - now.temper[g]));
            }
        }

        private void addToSums(int highest, int weight) {
            Arrays.fill(stepsToNext, FAR);
            for (int read = 0; read <= NUMBER_MOST; read++) {
                int more = weight * read;
                for (int sum = 0; sum <= highest && sum + more <= ROW_SUM_MOST && stepsToRead[read] < FAR; sum++) {
                    int is = stepsToSum[sum] + stepsToRead[read];
                    stepsToNext[sum + more] = Math.min(stepsToNext[sum + more], is);
                }
            }
            int[] spare = stepsToSum;
            stepsToSum = stepsToNext;
            stepsToNext = spare;
        }

        int drinksShort(int set) {
            int sum = 0;
            for (int g = 0; g < coast.glasses; g++) {
                if (hasBit(set, g)) {
                    sum += Math.max(TEMPER_TRUE - now.temper[g], 0);
                }
            }
            return sum;
        }

        int drinksOver(int set) {
            int sum = 0;
            for (int g = 0; g < coast.glasses; g++) {
                if (hasBit(set, g)) {
                    sum += Math.max(now.temper[g] - TEMPER_TRUE, 0);
                }
            }
            return sum;
        }

        int daysToGive(int drinks) {
            if (drinks == 0) {
                return 0;
            }
            int later = Math.max(drinks - now.drinks, 0);
            if (later == 0) {
                return 1;
            }
            int aDay = coast.drinksADay;
            return aDay <= 0 ? NONE : 1 + (later + aDay - 1) / aDay;
        }
    }

    /** What was tapped, and the book of tempers. */
    private static final class Notebook {
        final Coast coast;
        final State now;
        final Row row;
        final int[] tapGlass = new int[TAPS_MOST];
        final int[] tapRead = new int[TAPS_MOST];
        int taps = 0;
        final int[] entryGlass = new int[BOOK_MOST];
        final int[] entryTemper = new int[BOOK_MOST];
        int entries = 0;
        final int[] parts = new int[NUMBER_MOST + 1];

        Notebook(Coast coast, State now, Row row) {
            this.coast = coast;
            this.now = now;
            this.row = row;
        }

        void clear() {
            taps = 0;
            entries = 0;
        }

        boolean addTap(int g, int read) {
            if (taps >= TAPS_MOST) {
                return false;
            }
            tapGlass[taps] = g;
            tapRead[taps] = read;
            taps++;
            return true;
        }

        boolean addEntry(int g, int temper) {
            if (entries >= BOOK_MOST) {
                return false;
            }
            entryGlass[entries] = g;
            entryTemper[entries] = temper;
            entries++;
            return true;
        }

        int firstWrong() {
            for (int i = 0; i < entries; i++) {
                if (now.temper[entryGlass[i]] != entryTemper[i]) {
                    return i;
                }
            }
            return NONE;
        }

        int fitting() {
            int set = ALL_WEATHERS;
            for (int weather = 0; weather <= NUMBER_MOST; weather++) {
                for (int i = 0; i < taps; i++) {
                    if (row.readingBy(tapGlass[i], weather) != tapRead[i]) {
                        set &= ~(1 << weather);
                    }
                }
            }
            return set;
        }

        int bestToTap() {
            int set = fitting();
            int best = NONE;
            int least = Integer.bitCount(set);
            for (int g = 0; g < coast.glasses; g++) {
                int is = greatestPart(g, set);
                if (is < least) {
                    least = is;
                    best = g;
                }
            }
            return best;
        }

        private int greatestPart(int g, int set) {
            Arrays.fill(parts, 0);
            int greatest = 0;
            for (int weather = 0; weather <= NUMBER_MOST; weather++) {
                if (hasBit(set, weather)) {
                    int read = row.readingBy(g, weather);
                    parts[read]++;
                    greatest = Math.max(greatest, parts[read]);
                }
            }
            return greatest;
        }
    }
}
