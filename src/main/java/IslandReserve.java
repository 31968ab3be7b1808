import java.util.Arrays;

/**
 * A spinning reserve on an island: sets that stand, warm up and run, the load of each hour shared
 * out among them by merit, and looks at what would be. The document ../shared/DOC.md tells what
 * each call promises.
 */
public final class IslandReserve {
    /** There is nothing to return. */
    public static final int NONE = -1;

    private static final int SETS = 4;
    private static final int MASKS = 1 << SETS;
    private static final int HOURS = 48;
    private static final int SAVED_MOST = 6;
    private static final int BUFFER_MOST = 60;
    private static final int LOAD_MOST = 1500;

    // What a set does; the numbers are those that setOf(set, 4) answers.
    private static final int STANDS = 0;
    private static final int WARMS_UP = 1;
    private static final int RUNS = 2;
    private static final int LOST = 3;

    // The rows in which an island keeps its hours; the numbers are those that hour() is asked with.
    private static final int FORECAST = 0;
    private static final int LOAD = 1;
    private static final int DARK = 2;
    private static final int BURNED = 3;
    private static final int RESERVE = 4;
    private static final int ENOUGH = 5;
    private static final int RAN = 6;
    private static final int HOUR_ROWS = 7;

    // The settings.
    private static final int STORE_LOAD = 0;
    private static final int WARMTH_BORNE = 1;
    private static final int SETTINGS = 2;
    private static final int STORE_LOAD_MOST = 300;
    private static final int WARMTH_BORNE_MOST = 48;

    // What the reader of a plan waits for.
    private static final int AN_ORDER = 0;
    private static final int A_SET = 1;
    private static final int HOURS_TO_PASS = 2;
    private static final int MORE_HOURS_TO_PASS = 3;
    private static final int AN_HOUR = 4;
    private static final int MORE_OF_AN_HOUR = 5;
    private static final int A_LOAD = 6;
    private static final int MORE_OF_A_LOAD = 7;
    private static final int A_SEMICOLON = 8;

    private final Island now = new Island();
    /** An island on which is tried what would be. */
    private final Island trial = new Island();
    private final Island[] saved = new Island[SAVED_MOST];
    private int oldestSaved = 0;
    private int savedCount = 0;
    private final int[] codes = new int[BUFFER_MOST];
    private int codeCount = 0;
    private final Plan plan = new Plan();
    private final Sharing sharing = new Sharing();

    /** Creates an island at the hour 0, with sets that stand, and an empty buffer. */
    public IslandReserve() {
        for (int place = 0; place < SAVED_MOST; place++) {
            saved[place] = new Island();
        }
    }

    // ---- sets

    /** Changes a set that stands. Returns its greatest load before. */
    public int rate(int set, int greatest, int least, int merit, int hours)
            throws IllegalArgumentException, IllegalStateException {
        requireArgument(isSet(set) && isFrom(50, 500, greatest) && isFrom(0, greatest, least));
        requireArgument(isFrom(1, 99, merit) && isFrom(0, 4, hours));
        requireState(now.fleet.phase[set] == STANDS);
        saveState();
        int before = now.fleet.greatest[set];
        now.fleet.greatest[set] = greatest;
        now.fleet.least[set] = least;
        now.fleet.merit[set] = merit;
        now.fleet.warmUp[set] = hours;
        return before;
    }

    /** Lets a set warm up, or run at once. Returns the hours left, 0 if it runs. */
    public int start(int set) throws IllegalArgumentException, IllegalStateException {
        requireArgument(isSet(set));
        requireState(now.fleet.phase[set] == STANDS);
        saveState();
        now.fleet.begin(set);
        return now.fleet.left[set];
    }

    /** Lets a set that warms up or runs stand. Returns how many sets run then. */
    public int stop(int set) throws IllegalArgumentException, IllegalStateException {
        requireArgument(isSet(set));
        requireState(now.fleet.isInUse(set));
        saveState();
        now.fleet.become(set, STANDS);
        return now.fleet.sizeOf(RUNS);
    }

    /** Loses a set, or mends it, if it is lost. Returns 1 if it is lost then, otherwise 0. */
    public int lose(int set) throws IllegalArgumentException {
        requireArgument(isSet(set));
        saveState();
        boolean mends = now.fleet.phase[set] == LOST;
        now.fleet.become(set, mends ? STANDS : LOST);
        return mends ? 0 : 1;
    }

    // ---- loads, hours

    /** Sheds the store, or takes it again. Returns 1 if it is shed then, otherwise 0. */
    public int shed() {
        saveState();
        now.storeIsShed = !now.storeIsShed;
        return oneIf(now.storeIsShed);
    }

    /** Changes the forecast. Returns the load before. */
    public int forecast(int hour, int load) throws IllegalArgumentException {
        requireArgument(isHour(hour) && isFrom(0, LOAD_MOST, load));
        saveState();
        int before = now.hours[FORECAST][hour];
        now.hours[FORECAST][hour] = load;
        return before;
    }

    /** Lets hours go by. Returns how many of them are dark. */
    public int pass(int hours) throws IllegalArgumentException, IllegalStateException {
        requireArgument(isFrom(1, HOURS, hours));
        requireState(now.hasStill(hours));
        saveState();
        int before = now.darkHours();
        now.letHoursGoBy(hours, sharing);
        return now.darkHours() - before;
    }

    /** Changes a setting. Returns the previous value. */
    public int set(int setting, int value)
            throws IndexOutOfBoundsException, IllegalArgumentException {
        requireSetting(setting);
        int most = setting == STORE_LOAD ? STORE_LOAD_MOST : WARMTH_BORNE_MOST;
        requireArgument(isFrom(0, most, value));
        saveState();
        int before = now.settings[setting];
        now.settings[setting] = value;
        return before;
    }

    // ---- the buffer

    /** Appends a character to the buffer. Returns the new length of the buffer. */
    public int append(int code) throws IllegalArgumentException, IllegalStateException {
        requireArgument(isFrom(33, 126, code));
        requireState(codeCount < BUFFER_MOST);
        codes[codeCount] = code;
        codeCount++;
        return codeCount;
    }

    /** Clears the buffer. Returns the length that it had. */
    public int clearBuffer() {
        int before = codeCount;
        codeCount = 0;
        return before;
    }

    /** Returns the index of the first syntax error; the buffer's length if there is none. */
    public int firstError() {
        return plan.read(codes, codeCount);
    }

    /** Does the orders in the buffer, and clears it. Returns how many are done. */
    public int run() throws IllegalArgumentException {
        requireArgument(plan.read(codes, codeCount) == codeCount && plan.isWhole());
        saveState();
        codeCount = 0;
        int done = 0;
        while (done < plan.orders && isAllowed(plan.kind[done], plan.first[done])) {
            obey(plan.kind[done], plan.first[done], plan.second[done]);
            done++;
        }
        return done;
    }

    /** Restores the latest saved state. Returns how many saved states are left. */
    public int undo() throws IllegalStateException {
        requireState(savedCount > 0);
        savedCount--;
        now.copyFrom(saved[(oldestSaved + savedCount) % SAVED_MOST]);
        return savedCount;
    }

    // ---- looks; nothing is changed. The hour of now is the one that would go by next; if the
    // hour is 48, it is the hour 47.

    /** Returns a property of a set. */
    public int setOf(int set, int what) throws IllegalArgumentException {
        requireArgument(isSet(set) && isFrom(0, 8, what));
        Fleet fleet = now.fleet;
        switch (what) {
            case 0: return fleet.greatest[set];
            case 1: return fleet.least[set];
            case 2: return fleet.merit[set];
            case 3: return fleet.warmUp[set];
            case 4: return fleet.phase[set];
            case 5: return fleet.left[set];
            case 6: shareOutNow(); return sharing.load[set];
            case 7: return fleet.fuel[set];
            default: return fleet.ranHours[set];
        }
    }

    /** Returns something of an hour; NONE for what is not known before it has gone by. */
    public int hour(int hour, int what) throws IllegalArgumentException {
        requireArgument(isHour(hour) && isFrom(0, HOUR_ROWS - 1, what));
        return what == FORECAST || hour < now.hour ? now.hours[what][hour] : NONE;
    }

    /** Returns a number. */
    public int count(int what) throws IllegalArgumentException {
        requireArgument(isFrom(0, 14, what));
        switch (what) {
            case 0: return now.hour;
            case 1: return now.fleet.sizeOf(RUNS);
            case 2: return now.fleet.sizeOf(WARMS_UP);
            case 3: return now.loadOf(now.hourOfNow());
            case 4: shareOutNow(); return sharing.dark;
            case 5: shareOutNow(); return sharing.burned;
            case 6: shareOutNow(); return sharing.reserve;
            case 7: shareOutNow(); return oneIf(sharing.isEnough);
            case 8: return now.warmth;
            case 9: return oneIf(now.isSpoiled);
            case 10: return oneIf(now.storeIsShed);
            case 11: return now.darkHours();
            case 12: return now.hour - now.safeHours();
            case 13: return now.fleet.fuelSoFar();
            default: return savedCount;
        }
    }

    /** Returns a setting. */
    public int setting(int setting) throws IndexOutOfBoundsException {
        requireSetting(setting);
        return now.settings[setting];
    }

    // ---- what would be; nothing is changed.

    /** Returns what would be dark in the hour of now, if this set was lost. */
    public int ifLost(int set) throws IllegalArgumentException {
        requireArgument(isSet(set));
        int others = now.fleet.maskOf(RUNS) & ~(1 << set);
        sharing.shareOut(now.fleet, others, now.loadOf(now.hourOfNow()));
        return sharing.dark;
    }

    /** Finds the cheapest sets for an hour, or their fuel; NONE if there are none. */
    public int cheapest(int hour, int what) throws IllegalArgumentException {
        requireArgument(isHour(hour) && isFrom(0, 1, what));
        int lost = now.fleet.maskOf(LOST);
        int load = now.loadOf(hour);
        int bestMask = NONE;
        int leastFuel = NONE;
        for (int mask = 0; mask < MASKS; mask++) {
            if ((mask & lost) != 0) {
                continue;
            }
            sharing.shareOut(now.fleet, mask, load);
            int fuel = now.fleet.fuelFor(sharing.load);
            if (sharing.isEnough && (bestMask == NONE || fuel < leastFuel)) {
                bestMask = mask;
                leastFuel = fuel;
            }
        }
        return what == 0 ? bestMask : leastFuel;
    }

    /** Returns the first hour that would be dark, if nothing was done; NONE if none would. */
    public int firstDark() {
        trial.copyFrom(now);
        trial.letHoursGoBy(HOURS, sharing);
        for (int hour = now.hour; hour < HOURS; hour++) {
            if (trial.hours[DARK][hour] > 0) {
                return hour;
            }
        }
        return NONE;
    }

    /** Returns how many dark hours fewer shedding (or taking) the store would bring, plus 100. */
    public int ifShed() {
        trial.copyFrom(now);
        trial.letHoursGoBy(HOURS, sharing);
        int darkAsItIs = trial.darkHours();
        trial.copyFrom(now);
        trial.storeIsShed = !now.storeIsShed;
        trial.letHoursGoBy(HOURS, sharing);
        return darkAsItIs - trial.darkHours() + 100;
    }

    /** Returns the set that is best started; NONE if no start makes the dark hours fewer. */
    public int bestStart() {
        trial.copyFrom(now);
        trial.letHoursGoBy(HOURS, sharing);
        int fewestDark = trial.darkHours();
        int leastFuel = 0;
        int best = NONE;
        for (int set = 0; set < SETS; set++) {
            if (now.fleet.phase[set] != STANDS) {
                continue;
            }
            trial.copyFrom(now);
            trial.fleet.begin(set);
            trial.letHoursGoBy(HOURS, sharing);
            int dark = trial.darkHours();
            int fuel = trial.fleet.fuelSoFar();
            boolean saves = best != NONE && dark == fewestDark && fuel < leastFuel;
            if (dark < fewestDark || saves) {
                fewestDark = dark;
                leastFuel = fuel;
                best = set;
            }
        }
        return best;
    }

    /** Returns which part of the hours so far had enough reserve; 1.0 without hours. */
    public double safeShare() {
        if (now.hour <= 0) {
            return 1.0;
        }
        return (double) now.safeHours() / (double) now.hour;
    }

    /** Computes a hash of the whole state. */
    public long digest() {
        long hash = 3041L;
        for (int what = 0; what <= 14; what++) {
            hash = 31L * hash + count(what);
        }
        for (int setting = 0; setting < SETTINGS; setting++) {
            hash = 31L * hash + setting(setting);
        }
        for (int set = 0; set < SETS; set++) {
            for (int what = 0; what <= 8; what++) {
                hash = 31L * hash + setOf(set, what);
            }
            hash = 31L * hash + ifLost(set);
        }
        for (int hour = 0; hour < HOURS; hour++) {
            for (int what = 0; what < HOUR_ROWS; what++) {
                hash = 31L * hash + hour(hour, what);
            }
        }
        hash = withCheapest(withCheapest(withCheapest(hash, 0), 20), 47);
        hash = 31L * hash + firstDark();
        hash = 31L * hash + ifShed();
        hash = 31L * hash + bestStart();
        hash = 31L * hash + bitsOfShare(safeShare());
        hash = 31L * hash + codeCount;
        for (int place = 0; place < codeCount && place < BUFFER_MOST; place++) {
            hash = 31L * hash + codes[place];
        }
        return hash;
    }

    // ---- what the calls are made of

    private long withCheapest(long hash, int hour) {
        return 31L * (31L * hash + cheapest(hour, 0)) + cheapest(hour, 1);
    }

    private void saveState() {
        if (savedCount == SAVED_MOST) {
            oldestSaved = (oldestSaved + 1) % SAVED_MOST;
            savedCount--;
        }
        saved[(oldestSaved + savedCount) % SAVED_MOST].copyFrom(now);
        savedCount++;
    }

    private void shareOutNow() {
        sharing.shareOut(now.fleet, now.fleet.maskOf(RUNS), now.loadOf(now.hourOfNow()));
    }

    /** Whether the method that does such an order as this would not throw. */
    private boolean isAllowed(int kind, int first) {
        switch (kind) {
            case '+': return isSet(first) && now.fleet.phase[first] == STANDS;
            case '-': return isSet(first) && now.fleet.isInUse(first);
            case 'h': return isFrom(1, HOURS, first) && now.hasStill(first);
            case 'f': return isHour(first);
            default: return true;
        }
    }

    /** Does an order that is allowed. */
    private void obey(int kind, int first, int second) {
        switch (kind) {
            case '+': now.fleet.begin(first); break;
            case '-': now.fleet.become(first, STANDS); break;
            case 'h': now.letHoursGoBy(first, sharing); break;
            case 'f': now.hours[FORECAST][first] = second; break;
            default: now.storeIsShed = !now.storeIsShed; break;
        }
    }

    private static void requireArgument(boolean isRight) {
        if (!isRight) {
            throw new IllegalArgumentException("out of range, or the buffer is no plan");
        }
    }

    private static void requireState(boolean isRight) {
        if (!isRight) {
            throw new IllegalStateException("the state does not allow this");
        }
    }

    private static void requireSetting(int setting) {
        if (!isFrom(0, SETTINGS - 1, setting)) {
            throw new IndexOutOfBoundsException("there is no such setting");
        }
    }

    private static boolean isFrom(int least, int most, int value) {
        return value >= least && value <= most;
    }

    private static boolean isSet(int set) {
        return isFrom(0, SETS - 1, set);
    }

    private static boolean isHour(int hour) {
        return isFrom(0, HOURS - 1, hour);
    }

    private static int oneIf(boolean isSo) {
        return isSo ? 1 : 0;
    }

    /** The bits of a double from 0.0 to 1.0, made by hand: the language rules leave no Double. */
    private static long bitsOfShare(double share) {
        if (share <= 0.0) {
            return 0L;
        }
        double scaled = share;
        long exponent = 1023L;
        while (scaled < 1.0 && exponent > 0L) {
            scaled = scaled * 2.0;
            exponent--;
        }
        // Exact: scaled is from 1 to 2, and 2^52 makes all 52 bits behind the point whole.
        return (exponent << 52) + (long) ((scaled - 1.0) * (double) (1L << 52));
    }

    /** The sets, a row for each of their properties. */
    private static final class Fleet {
        private final int[] greatest = new int[SETS];
        private final int[] least = new int[SETS];
        private final int[] merit = new int[SETS];
        private final int[] warmUp = new int[SETS];
        private final int[] phase = new int[SETS];
        private final int[] left = new int[SETS];
        private final int[] fuel = new int[SETS];
        private final int[] ranHours = new int[SETS];

        private Fleet() {
            Arrays.fill(greatest, 200);
            Arrays.fill(least, 60);
            Arrays.fill(warmUp, 1);
            for (int set = 0; set < SETS; set++) {
                merit[set] = 10 * (set + 1);
            }
        }

        private void copyFrom(Fleet other) {
            System.arraycopy(other.greatest, 0, greatest, 0, SETS);
            System.arraycopy(other.least, 0, least, 0, SETS);
            System.arraycopy(other.merit, 0, merit, 0, SETS);
            System.arraycopy(other.warmUp, 0, warmUp, 0, SETS);
            System.arraycopy(other.phase, 0, phase, 0, SETS);
            System.arraycopy(other.left, 0, left, 0, SETS);
            System.arraycopy(other.fuel, 0, fuel, 0, SETS);
            System.arraycopy(other.ranHours, 0, ranHours, 0, SETS);
        }

        private void begin(int set) {
            left[set] = warmUp[set];
            phase[set] = warmUp[set] == 0 ? RUNS : WARMS_UP;
        }

        /** Lets a set stand, run, or be lost; it does not warm up any more. */
        private void become(int set, int newPhase) {
            left[set] = 0;
            phase[set] = newPhase;
        }

        private boolean isInUse(int set) {
            return phase[set] == WARMS_UP || phase[set] == RUNS;
        }

        private int maskOf(int wanted) {
            int mask = 0;
            for (int set = 0; set < SETS; set++) {
                if (phase[set] == wanted) {
                    mask |= 1 << set;
                }
            }
            return mask;
        }

        private int sizeOf(int wanted) {
            return Integer.bitCount(maskOf(wanted));
        }

        private void warmUpAnHour() {
            for (int set = 0; set < SETS; set++) {
                if (phase[set] == WARMS_UP) {
                    left[set]--;
                    if (left[set] <= 0) {
                        become(set, RUNS);
                    }
                }
            }
        }

        private void burnFuel(int[] load) {
            for (int set = 0; set < SETS && set < load.length; set++) {
                if (phase[set] == RUNS) {
                    fuel[set] += merit[set] * load[set] / 10;
                    ranHours[set]++;
                }
            }
        }

        private int fuelFor(int[] load) {
            int sum = 0;
            for (int set = 0; set < SETS && set < load.length; set++) {
                sum += merit[set] * load[set] / 10;
            }
            return sum;
        }

        private int fuelSoFar() {
            int sum = 0;
            for (int set = 0; set < SETS; set++) {
                sum += fuel[set];
            }
            return sum;
        }

        /** The set of a mask with the least merit, of several the lowest; NONE without sets. */
        private int firstByMerit(int mask) {
            int found = NONE;
            for (int set = 0; set < SETS; set++) {
                boolean isIn = (mask >> set & 1) == 1;
                if (isIn && (found == NONE || merit[set] < merit[found])) {
                    found = set;
                }
            }
            return found;
        }
    }

    /** A load that is shared out, and what came of it. */
    private static final class Sharing {
        private final int[] load = new int[SETS];
        private int dark = 0;
        private int burned = 0;
        private int reserve = 0;
        private boolean isEnough = false;

        private void shareOut(Fleet fleet, int mask, int due) {
            int leasts = 0;
            int couldBear = 0;
            int greatestOne = 0;
            for (int set = 0; set < SETS; set++) {
                load[set] = 0;
                if ((mask >> set & 1) == 1) {
                    load[set] = fleet.least[set];
                    leasts += fleet.least[set];
                    couldBear += fleet.greatest[set];
                    greatestOne = Math.max(greatestOne, fleet.greatest[set]);
                }
            }
            int rest = Math.max(due - leasts, 0);
            burned = Math.max(leasts - due, 0);
            dark = giveByMerit(fleet, mask, rest);
            reserve = couldBear - leasts - (rest - dark);
            isEnough = dark == 0 && couldBear - greatestOne >= due;
        }

        /** Gives what the least loads left to the sets of a mask; returns what none can bear. */
        private int giveByMerit(Fleet fleet, int mask, int rest) {
            int still = rest;
            int waiting = mask;
            for (int turn = 0; turn < SETS && still > 0; turn++) {
                int set = fleet.firstByMerit(waiting);
                if (set == NONE) {
                    break;
                }
                int more = Math.min(still, fleet.greatest[set] - fleet.least[set]);
                load[set] += more;
                still -= more;
                waiting &= ~(1 << set);
            }
            return still;
        }
    }

    /** The state that undo restores: the sets, the hours, the store and the settings. */
    private static final class Island {
        private final Fleet fleet = new Fleet();
        private final int[][] hours = new int[HOUR_ROWS][HOURS];
        private final int[] settings = new int[SETTINGS];
        private int hour = 0;
        private int warmth = 0;
        private boolean isSpoiled = false;
        private boolean storeIsShed = false;

        private Island() {
            Arrays.fill(hours[FORECAST], 100);
            settings[STORE_LOAD] = 80;
            settings[WARMTH_BORNE] = 6;
        }

        private void copyFrom(Island other) {
            fleet.copyFrom(other.fleet);
            for (int row = 0; row < HOUR_ROWS; row++) {
                System.arraycopy(other.hours[row], 0, hours[row], 0, HOURS);
            }
            System.arraycopy(other.settings, 0, settings, 0, SETTINGS);
            hour = other.hour;
            warmth = other.warmth;
            isSpoiled = other.isSpoiled;
            storeIsShed = other.storeIsShed;
        }

        private int hourOfNow() {
            return Math.min(hour, HOURS - 1);
        }

        private boolean hasStill(int wanted) {
            return wanted <= HOURS - hour;
        }

        /** The load of an hour, with the store, if it is not shed now. */
        private int loadOf(int ofHour) {
            return hours[FORECAST][ofHour] + (storeIsShed ? 0 : settings[STORE_LOAD]);
        }

        /** Lets so many hours go by, or fewer, if the hours end. */
        private void letHoursGoBy(int most, Sharing sharing) {
            for (int gone = 0; gone < most && hour < HOURS; gone++) {
                letAnHourGoBy(sharing);
            }
        }

        private void letAnHourGoBy(Sharing sharing) {
            fleet.warmUpAnHour();
            int load = loadOf(hour);
            int running = fleet.maskOf(RUNS);
            sharing.shareOut(fleet, running, load);
            hours[LOAD][hour] = load;
            hours[DARK][hour] = sharing.dark;
            hours[BURNED][hour] = sharing.burned;
            hours[RESERVE][hour] = sharing.reserve;
            hours[ENOUGH][hour] = oneIf(sharing.isEnough);
            hours[RAN][hour] = running;
            fleet.burnFuel(sharing.load);
            changeWarmth();
            hour++;
        }

        private void changeWarmth() {
            warmth = storeIsShed ? warmth + 1 : Math.max(warmth - 1, 0);
            isSpoiled = isSpoiled || warmth > settings[WARMTH_BORNE];
        }

        private int darkHours() {
            int dark = 0;
            for (int gone = 0; gone < hour && gone < HOURS; gone++) {
                dark += oneIf(hours[DARK][gone] > 0);
            }
            return dark;
        }

        private int safeHours() {
            int safe = 0;
            for (int gone = 0; gone < hour && gone < HOURS; gone++) {
                safe += hours[ENOUGH][gone];
            }
            return safe;
        }
    }

    /** The orders of a plan as a text, as far as they have been read. */
    private static final class Plan {
        private final int[] kind = new int[BUFFER_MOST];
        /** A set, hours to pass, or an hour. */
        private final int[] first = new int[BUFFER_MOST];
        /** A load. */
        private final int[] second = new int[BUFFER_MOST];
        private int orders = 0;
        private int awaited = AN_ORDER;

        /** Reads a text; returns the place of its first error, its length if there is none. */
        private int read(int[] codes, int length) {
            orders = 0;
            awaited = AN_ORDER;
            int place = 0;
            while (place < length && place < codes.length && takes(codes[place])) {
                place++;
            }
            return place;
        }

        /** Whether a plan may end behind what has been read. */
        private boolean isWhole() {
            return awaited == A_SEMICOLON || awaited == MORE_HOURS_TO_PASS
                    || awaited == MORE_OF_A_LOAD;
        }

        /** Reads on by a character; false if it is a syntax error. */
        private boolean takes(int code) {
            if (awaited == AN_ORDER) {
                return takesOrder(code);
            }
            if (code == ';' && isWhole()) {
                awaited = AN_ORDER;
                return true;
            }
            if (code == '=' && awaited == MORE_OF_AN_HOUR) {
                awaited = A_LOAD;
                return true;
            }
            int last = orders - 1;
            return last >= 0 && last < BUFFER_MOST && isFrom('0', '9', code)
                    && takesDigit(last, code - '0');
        }

        private boolean takesOrder(int code) {
            if (orders >= BUFFER_MOST) {
                return false;
            }
            switch (code) {
                case '+':
                case '-': awaited = A_SET; break;
                case 's': awaited = A_SEMICOLON; break;
                case 'h': awaited = HOURS_TO_PASS; break;
                case 'f': awaited = AN_HOUR; break;
                default: return false;
            }
            kind[orders] = code;
            first[orders] = 0;
            second[orders] = 0;
            orders++;
            return true;
        }

        private boolean takesDigit(int order, int digit) {
            switch (awaited) {
                case A_SET: return begins(first, order, digit, isSet(digit), A_SEMICOLON);
                case HOURS_TO_PASS:
                    return begins(first, order, digit, digit > 0, MORE_HOURS_TO_PASS);
                case AN_HOUR: return begins(first, order, digit, true, MORE_OF_AN_HOUR);
                case A_LOAD: return begins(second, order, digit, true, MORE_OF_A_LOAD);
                case MORE_HOURS_TO_PASS: return goesOn(first, order, digit, HOURS);
                case MORE_OF_AN_HOUR: return goesOn(first, order, digit, HOURS - 1);
                case MORE_OF_A_LOAD: return goesOn(second, order, digit, LOAD_MOST);
                default: return false;
            }
        }

        private boolean begins(int[] row, int order, int digit, boolean isRight, int next) {
            if (isRight && order >= 0 && order < row.length) {
                row[order] = digit;
                awaited = next;
                return true;
            }
            return false;
        }

        /** A further digit fits a number if it does not lead with 0 and stays in its bound. */
        private boolean goesOn(int[] row, int order, int digit, int most) {
            if (order < 0 || order >= row.length || row[order] == 0) {
                return false;
            }
            int grown = 10 * row[order] + digit;
            if (grown > most) {
                return false;
            }
            row[order] = grown;
            return true;
        }
    }
}
