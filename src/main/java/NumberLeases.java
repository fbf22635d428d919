/** A pool of free numbers given on lease, with wishes, grace, orders as texts, and undo. */
public final class NumberLeases {
    public static final int NONE = -1;

    private static final int NUMBERS = 64;
    private static final int HOLDERS = 8;
    private static final int WISHES = 3;
    private static final int SAVES = 6;
    private static final int SIGNS = 60;
    private static final int MOST_TERM = 999;
    private static final int MOST_TEXT_TERM = 99;
    private static final int MOST_PASS = 99;
    private static final int MOST_TIME = 9999;
    private static final int MOST_AHEAD = 500;

    private static final int FREE = 0;
    private static final int HELD = 1;
    private static final int IN_GRACE = 2;

    private static final int GRACE = 0;
    private static final int LIMIT = 1;
    private static final int WISHES_BAR = 2;
    private static final int SIZE = 3;
    private static final int SETTINGS = 4;
    private static final int[] LEAST_SETTING = {0, 1, 0, 4};
    private static final int[] MOST_SETTING = {50, 64, 1, 64};

    private static final long DIGEST_START = 2579L;

    private final Pool pool = new Pool();
    // What would be is played here, so that the looks make no objects.
    private final Pool ahead = new Pool();
    private final Saves saves = new Saves();
    private final Orders orders = new Orders();

    public NumberLeases() {
    }

    // ---- leases

    public int take(int holder, int term)
            throws IndexOutOfBoundsException, IllegalArgumentException, IllegalStateException {
        return leaseLowest(holder, 1, term);
    }

    public int takeSpan(int holder, int many, int term)
            throws IndexOutOfBoundsException, IllegalArgumentException, IllegalStateException {
        return leaseLowest(holder, many, term);
    }

    public int wish(int holder, int number, int term)
            throws IndexOutOfBoundsException, IllegalArgumentException, IllegalStateException {
        needHolder(holder);
        needNumber(number);
        needRange(term, 1, MOST_TERM);
        needState(pool.mayWish(holder, number));
        saves.keep(pool);
        return pool.addWish(holder, number, term);
    }

    public int unwish(int holder, int number) throws IndexOutOfBoundsException, IllegalStateException {
        needHolder(holder);
        needNumber(number);
        int place = pool.placeOfWish(holder, number);
        needState(place != NONE);
        saves.keep(pool);
        pool.dropWish(number, place);
        return pool.waiting[number];
    }

    public int renew(int holder, int number, int term)
            throws IndexOutOfBoundsException, IllegalArgumentException, IllegalStateException {
        needHolder(holder);
        needNumber(number);
        needRange(term, 1, MOST_TERM);
        needState(pool.mayRenew(holder, number));
        saves.keep(pool);
        return pool.prolong(number, term);
    }

    public int giveBack(int holder, int from, int to)
            throws IndexOutOfBoundsException, IllegalArgumentException {
        needHolder(holder);
        needNumber(from);
        needNumber(to);
        needRange(to, from, NUMBERS);
        saves.keep(pool);
        return pool.freeSpan(holder, from, to);
    }

    public int pass(int by) throws IllegalArgumentException, IllegalStateException {
        needRange(by, 1, MOST_PASS);
        needState(pool.hasTimeFor(by));
        saves.keep(pool);
        return pool.passUnits(by);
    }

    public int set(int setting, int value)
            throws IndexOutOfBoundsException, IllegalArgumentException, IllegalStateException {
        needSetting(setting);
        needRange(value, LEAST_SETTING[setting], MOST_SETTING[setting]);
        needState(setting != SIZE || pool.fitsIn(value));
        saves.keep(pool);
        int previous = pool.settings[setting];
        pool.settings[setting] = value;
        return previous;
    }

    // ---- texts

    public int append(int code) throws IllegalArgumentException, IllegalStateException {
        needRange(code, 33, 126);
        needState(orders.length < SIGNS);
        orders.addSign(code);
        return orders.length;
    }

    public int clearBuffer() {
        int previous = orders.length;
        orders.length = 0;
        return previous;
    }

    public int firstError() {
        orders.readAll();
        return orders.at;
    }

    public int run() throws IllegalArgumentException {
        if (!orders.readAll()) {
            throw new IllegalArgumentException();
        }
        saves.keep(pool);
        orders.rewind();
        int done = 0;
        boolean going = true;
        for (int k = 0; k < SIGNS && going && orders.at < orders.length; k++) {
            orders.readNext();
            going = carryOut();
            if (going) {
                done++;
            }
        }
        orders.length = 0;
        return done;
    }

    public int undo() throws IllegalStateException {
        needState(saves.many > 0);
        saves.restore(pool);
        return saves.many;
    }

    // ---- looks; nothing is changed

    public int number(int number, int what) throws IndexOutOfBoundsException, IllegalArgumentException {
        needNumber(number);
        needRange(what, 0, 8);
        return pool.ofNumber(number, what);
    }

    public int holder(int holder, int what) throws IndexOutOfBoundsException, IllegalArgumentException {
        needHolder(holder);
        needRange(what, 0, 7);
        return pool.ofHolder(holder, what);
    }

    public int span(int span, int what) throws IllegalArgumentException {
        if (span < 0) {
            throw new IllegalArgumentException();
        }
        needRange(what, 0, 1);
        return pool.ofSpan(span, what);
    }

    public int count(int what) throws IllegalArgumentException {
        needRange(what, 0, 12);
        return countOf(what);
    }

    public int setting(int setting) throws IndexOutOfBoundsException {
        needSetting(setting);
        return pool.settings[setting];
    }

    // ---- what would be, if nothing was done but time passes; nothing is changed, and the limit of time does not matter

    public int whoAfter(int number, int by) throws IndexOutOfBoundsException, IllegalArgumentException {
        needNumber(number);
        needRange(by, 0, MOST_AHEAD);
        return holderAfter(number, by);
    }

    public int freeIn(int many) throws IllegalArgumentException {
        needRange(many, 1, NUMBERS);
        return timeToFree(many);
    }

    public int wishedIn(int holder, int number) throws IndexOutOfBoundsException {
        needHolder(holder);
        needNumber(number);
        return timeToWished(holder, number);
    }

    public int fullness() {
        return fullnessBits();
    }

    public int scatter() {
        return scatterBits();
    }

    public double meanHeld() {
        return meanUnits();
    }

    public long digest() {
        long hash = DIGEST_START;
        for (int what = 0; what <= 12; what++) {
            hash = 31 * hash + countOf(what);
        }
        for (int k = 0; k < SETTINGS; k++) {
            hash = 31 * hash + pool.settings[k];
        }
        hash = addNumbers(hash);
        hash = addHolders(hash);
        hash = addSpans(hash);
        hash = 31 * hash + holderAfter(0, 20);
        hash = 31 * hash + timeToFree(4);
        hash = 31 * hash + fullnessBits();
        hash = 31 * hash + scatterBits();
        hash = 31 * hash + Bits.ofDouble(meanUnits());
        return addBuffer(hash);
    }

    // ---- what the calls need; each throws where it is not so

    private static void needHolder(int holder) {
        if (holder < 0 || holder >= HOLDERS) {
            throw new IndexOutOfBoundsException();
        }
    }

    private void needNumber(int number) {
        if (!pool.hasNumber(number)) {
            throw new IndexOutOfBoundsException();
        }
    }

    private static void needSetting(int setting) {
        if (setting < 0 || setting >= SETTINGS) {
            throw new IndexOutOfBoundsException();
        }
    }

    private static void needRange(int value, int least, int most) {
        if (value < least || value > most) {
            throw new IllegalArgumentException();
        }
    }

    private static void needState(boolean fine) {
        if (!fine) {
            throw new IllegalStateException();
        }
    }

    // ---- the calls' work

    private int leaseLowest(int holder, int many, int term) {
        needHolder(holder);
        needRange(many, 1, NUMBERS);
        needRange(term, 1, MOST_TERM);
        needState(pool.mayLease(holder, many));
        saves.keep(pool);
        return pool.leaseRow(holder, many, term);
    }

    /** Carries out the order that was read last; false if its method would throw. */
    private boolean carryOut() {
        int holder = orders.holder;
        int first = orders.first;
        int second = orders.second;
        switch (orders.kind) {
            case 't':
                if (!pool.mayLease(holder, 1)) {
                    return false;
                }
                pool.leaseRow(holder, 1, second);
                return true;
            case 'w':
                if (!pool.hasNumber(first) || !pool.mayWish(holder, first)) {
                    return false;
                }
                pool.addWish(holder, first, second);
                return true;
            case 'g':
                if (!pool.hasNumber(first) || !pool.hasNumber(second)) {
                    return false;
                }
                pool.freeSpan(holder, first, second);
                return true;
            default:
                if (!pool.hasTimeFor(second)) {
                    return false;
                }
                pool.passUnits(second);
                return true;
        }
    }

    private int countOf(int what) {
        return what == 12 ? saves.many : pool.ofAll(what);
    }

    private int holderAfter(int number, int by) {
        ahead.copyFrom(pool);
        int until = ahead.time + by;
        boolean more = true;
        for (int k = 0; k < by && more; k++) {
            more = ahead.leap(until);
        }
        return ahead.whose[number];
    }

    private int timeToFree(int many) {
        if (pool.freeNumbers() >= many) {
            return 0;
        }
        ahead.copyFrom(pool);
        int until = pool.time + MOST_AHEAD;
        for (int k = 0; k < MOST_AHEAD && ahead.leap(until); k++) {
            if (ahead.freeNumbers() >= many) {
                return ahead.time - pool.time;
            }
        }
        return NONE;
    }

    private int timeToWished(int holder, int number) {
        if (pool.whose[number] == holder) {
            return 0;
        }
        if (!pool.mayWish(holder, number)) {
            return NONE;
        }
        ahead.copyFrom(pool);
        if (ahead.addWish(holder, number, 1) == 0) {
            return 0;
        }
        int until = pool.time + MOST_AHEAD;
        for (int k = 0; k < MOST_AHEAD && ahead.leap(until); k++) {
            if (ahead.whose[number] == holder) {
                return ahead.time - pool.time;
            }
        }
        return NONE;
    }

    private int fullnessBits() {
        int size = pool.settings[SIZE];
        // The setting is never below 4; the divisor is looked at all the same.
        if (size <= 0) {
            return 0;
        }
        return Bits.ofFloat((float) (size - pool.freeNumbers()) / (float) size);
    }

    private int scatterBits() {
        int free = pool.freeNumbers();
        if (free <= 0) {
            return Bits.ofFloat(0.0f);
        }
        return Bits.ofFloat(1.0f - (float) pool.longestRow() / (float) free);
    }

    private double meanUnits() {
        int leases = sum(pool.leases);
        if (leases == 0) {
            return 0.0;
        }
        return (double) sum(pool.units) / (double) leases;
    }

    private long addNumbers(long start) {
        long hash = start;
        for (int n = 0; n < pool.settings[SIZE]; n++) {
            for (int what = 0; what <= 8; what++) {
                hash = 31 * hash + pool.ofNumber(n, what);
            }
        }
        return hash;
    }

    private long addHolders(long start) {
        long hash = start;
        for (int holder = 0; holder < HOLDERS; holder++) {
            for (int what = 0; what <= 7; what++) {
                hash = 31 * hash + pool.ofHolder(holder, what);
            }
            hash = 31 * hash + timeToWished(holder, 0);
        }
        return hash;
    }

    private long addSpans(long start) {
        long hash = start;
        int spans = pool.spans();
        for (int k = 0; k < spans; k++) {
            hash = 31 * hash + pool.ofSpan(k, 0);
            hash = 31 * hash + pool.ofSpan(k, 1);
        }
        return hash;
    }

    private long addBuffer(long start) {
        long hash = 31 * start + orders.length;
        for (int k = 0; k < orders.length; k++) {
            hash = 31 * hash + orders.signAt(k);
        }
        return hash;
    }

    private static int sum(int[] values) {
        int sum = 0;
        for (int value : values) {
            sum += value;
        }
        return sum;
    }

    /** The numbers with their leases and wishes, the settings, the time, and what is counted. */
    private static final class Pool {
        int time;
        int renewals;
        int graceRenewals;
        int freed;
        final int[] settings = {5, 16, 0, 32};
        // Who has a number; NONE if it is free, and then its begin, end and last say nothing.
        final int[] whose = new int[NUMBERS];
        final int[] begin = new int[NUMBERS];
        final int[] end = new int[NUMBERS];
        final int[] last = new int[NUMBERS];
        final int[] given = new int[NUMBERS];
        final int[] waiting = new int[NUMBERS];
        // The wishes for a number stand in order from its number times WISHES on.
        final int[] wishers = new int[NUMBERS * WISHES];
        final int[] wishTerms = new int[NUMBERS * WISHES];
        final int[] leases = new int[HOLDERS];
        final int[] lost = new int[HOLDERS];
        final int[] units = new int[HOLDERS];

        Pool() {
            for (int n = 0; n < NUMBERS; n++) {
                whose[n] = NONE;
            }
        }

        void copyFrom(Pool other) {
            time = other.time;
            renewals = other.renewals;
            graceRenewals = other.graceRenewals;
            freed = other.freed;
            copyRow(other.settings, settings);
            copyRow(other.whose, whose);
            copyRow(other.begin, begin);
            copyRow(other.end, end);
            copyRow(other.last, last);
            copyRow(other.given, given);
            copyRow(other.waiting, waiting);
            copyRow(other.wishers, wishers);
            copyRow(other.wishTerms, wishTerms);
            copyRow(other.leases, leases);
            copyRow(other.lost, lost);
            copyRow(other.units, units);
        }

        private static void copyRow(int[] from, int[] to) {
            System.arraycopy(from, 0, to, 0, Math.min(from.length, to.length));
        }

        // -- what may be done

        boolean hasNumber(int n) {
            return n >= 0 && n < settings[SIZE];
        }

        boolean mayLease(int holder, int many) {
            return hasRoom(holder, many) && lowestRow(many) != NONE;
        }

        boolean mayWish(int holder, int n) {
            if (whose[n] == NONE) {
                return hasRoom(holder, 1);
            }
            return waiting[n] < WISHES && whose[n] != holder && placeOfWish(holder, n) == NONE;
        }

        boolean mayRenew(int holder, int n) {
            return whose[n] == holder && (settings[WISHES_BAR] == 0 || waiting[n] == 0);
        }

        boolean hasTimeFor(int by) {
            return time + by <= MOST_TIME;
        }

        /** Tells whether all numbers that are not free stand in a pool of this size. */
        boolean fitsIn(int size) {
            for (int n = size; n < NUMBERS; n++) {
                if (whose[n] != NONE) {
                    return false;
                }
            }
            return true;
        }

        private boolean hasRoom(int holder, int many) {
            return numbersOf(holder) + many <= settings[LIMIT];
        }

        // -- leases

        int leaseRow(int holder, int many, int term) {
            int first = lowestRow(many);
            if (first == NONE) {
                return NONE;
            }
            for (int n = first; n < first + many; n++) {
                lease(holder, n, term);
            }
            return first;
        }

        private void lease(int holder, int n, int term) {
            whose[n] = holder;
            begin[n] = time;
            end[n] = time + term;
            last[n] = end[n] + settings[GRACE];
            given[n]++;
            leases[holder]++;
        }

        /** Renews a lease; returns the end that it had. */
        int prolong(int n, int term) {
            int previous = end[n];
            renewals++;
            if (stateOf(n) == IN_GRACE) {
                graceRenewals++;
            }
            end[n] = time + term;
            last[n] = end[n] + settings[GRACE];
            return previous;
        }

        /** Frees what the holder has from one number to another; returns how many. */
        int freeSpan(int holder, int from, int to) {
            int many = 0;
            for (int n = from; n <= to; n++) {
                if (whose[n] == holder) {
                    many++;
                    free(n);
                }
            }
            return many;
        }

        /** Makes a number free, and then serves its wishes, in order, as long as it is free. */
        private void free(int n) {
            whose[n] = NONE;
            freed++;
            for (int k = 0; k < WISHES && whose[n] == NONE && waiting[n] > 0; k++) {
                int holder = wishers[n * WISHES];
                int term = wishTerms[n * WISHES];
                dropWish(n, 0);
                if (numbersOf(holder) < settings[LIMIT]) {
                    lease(holder, n, term);
                } else {
                    lost[holder]++;
                }
            }
        }

        // -- wishes

        /** Gives a free number, and returns 0, or lets the wish wait, and returns how many wait. */
        int addWish(int holder, int n, int term) {
            if (whose[n] == NONE) {
                lease(holder, n, term);
                return 0;
            }
            if (waiting[n] < WISHES) {
                int cell = n * WISHES + waiting[n];
                wishers[cell] = holder;
                wishTerms[cell] = term;
                waiting[n]++;
            }
            return waiting[n];
        }

        /** The place of the holder's wish among those that wait for a number, from 0; NONE without one. */
        int placeOfWish(int holder, int n) {
            for (int k = 0; k < waiting[n]; k++) {
                if (wishers[n * WISHES + k] == holder) {
                    return k;
                }
            }
            return NONE;
        }

        void dropWish(int n, int place) {
            for (int k = place; k < waiting[n] - 1; k++) {
                int cell = n * WISHES + k;
                wishers[cell] = wishers[cell + 1];
                wishTerms[cell] = wishTerms[cell + 1];
            }
            waiting[n]--;
        }

        // -- time

        /** Lets time pass; returns how many numbers become free in it. */
        int passUnits(int by) {
            int before = freed;
            for (int k = 0; k < by; k++) {
                countUnits();
                time++;
                freeDue();
            }
            return freed - before;
        }

        /**
         * Goes on to the next moment, up to a last one, in which a number becomes free; tells whether there is one.
         * The units that pass are not counted: this is for what would be, where nobody looks at them.
         */
        boolean leap(int until) {
            int next = until + 1;
            for (int n = 0; n < NUMBERS; n++) {
                if (whose[n] != NONE && last[n] < next) {
                    next = last[n];
                }
            }
            if (next > until) {
                return false;
            }
            time = next;
            freeDue();
            return true;
        }

        private void countUnits() {
            for (int n = 0; n < NUMBERS; n++) {
                if (stateOf(n) == HELD) {
                    units[whose[n]]++;
                }
            }
        }

        private void freeDue() {
            for (int n = 0; n < NUMBERS; n++) {
                if (whose[n] != NONE && last[n] == time) {
                    free(n);
                }
            }
        }

        // -- looks

        private int stateOf(int n) {
            if (whose[n] == NONE) {
                return FREE;
            }
            return time < end[n] ? HELD : IN_GRACE;
        }

        int ofNumber(int n, int what) {
            boolean free = whose[n] == NONE;
            boolean wished = waiting[n] > 0;
            switch (what) {
                case 0:
                    return stateOf(n);
                case 1:
                    return whose[n];
                case 2:
                    return free ? NONE : begin[n];
                case 3:
                    return free ? NONE : end[n];
                case 4:
                    return free ? NONE : last[n];
                case 5:
                    return waiting[n];
                case 6:
                    return wished ? wishers[n * WISHES] : NONE;
                case 7:
                    return wished ? wishTerms[n * WISHES] : NONE;
                default:
                    return given[n];
            }
        }

        int ofHolder(int holder, int what) {
            switch (what) {
                case 0:
                    return numbersOfIn(holder, HELD);
                case 1:
                    return numbersOfIn(holder, IN_GRACE);
                case 2:
                    return wishesOf(holder);
                case 3:
                    return leastOf(holder);
                case 4:
                    return leastEndOf(holder);
                case 5:
                    return leases[holder];
                case 6:
                    return lost[holder];
                default:
                    return units[holder];
            }
        }

        int ofSpan(int place, int what) {
            int first = startOfSpan(place);
            if (first == NONE || what == 0) {
                return first;
            }
            return rowFrom(first);
        }

        /** What count() tells, but for the saved states. */
        int ofAll(int what) {
            switch (what) {
                case 0:
                    return time;
                case 1:
                    return freeNumbers();
                case 2:
                    return numbersIn(HELD);
                case 3:
                    return numbersIn(IN_GRACE);
                case 4:
                    return sum(waiting);
                case 5:
                    return sum(leases);
                case 6:
                    return renewals;
                case 7:
                    return graceRenewals;
                case 8:
                    return freed;
                case 9:
                    return sum(lost);
                case 10:
                    return spans();
                default:
                    return longestRow();
            }
        }

        int freeNumbers() {
            return numbersIn(FREE);
        }

        private int numbersIn(int state) {
            int many = 0;
            for (int n = 0; n < settings[SIZE]; n++) {
                if (stateOf(n) == state) {
                    many++;
                }
            }
            return many;
        }

        private int numbersOf(int holder) {
            int many = 0;
            for (int n = 0; n < NUMBERS; n++) {
                if (whose[n] == holder) {
                    many++;
                }
            }
            return many;
        }

        private int numbersOfIn(int holder, int state) {
            int many = 0;
            for (int n = 0; n < NUMBERS; n++) {
                if (whose[n] == holder && stateOf(n) == state) {
                    many++;
                }
            }
            return many;
        }

        private int wishesOf(int holder) {
            int many = 0;
            for (int n = 0; n < NUMBERS; n++) {
                if (placeOfWish(holder, n) != NONE) {
                    many++;
                }
            }
            return many;
        }

        private int leastOf(int holder) {
            for (int n = 0; n < NUMBERS; n++) {
                if (whose[n] == holder) {
                    return n;
                }
            }
            return NONE;
        }

        private int leastEndOf(int holder) {
            int least = NONE;
            for (int n = 0; n < NUMBERS; n++) {
                if (whose[n] == holder && stateOf(n) == HELD && (least == NONE || end[n] < least)) {
                    least = end[n];
                }
            }
            return least;
        }

        // -- free numbers side by side

        /** How many free numbers stand side by side from this one on. */
        private int rowFrom(int first) {
            int n = first;
            while (n < settings[SIZE] && whose[n] == NONE) {
                n++;
            }
            return n - first;
        }

        private int lowestRow(int many) {
            for (int n = 0; n < settings[SIZE]; n++) {
                if (rowFrom(n) >= many) {
                    return n;
                }
            }
            return NONE;
        }

        int longestRow() {
            int longest = 0;
            for (int n = 0; n < settings[SIZE]; n++) {
                longest = Math.max(longest, rowFrom(n));
            }
            return longest;
        }

        int spans() {
            int many = 0;
            for (int n = 0; n < settings[SIZE]; n++) {
                if (startsSpan(n)) {
                    many++;
                }
            }
            return many;
        }

        private int startOfSpan(int place) {
            int before = 0;
            for (int n = 0; n < settings[SIZE]; n++) {
                if (startsSpan(n)) {
                    if (before == place) {
                        return n;
                    }
                    before++;
                }
            }
            return NONE;
        }

        private boolean startsSpan(int n) {
            return whose[n] == NONE && (n == 0 || whose[n - 1] != NONE);
        }
    }

    /** The saved states, the oldest one first. */
    private static final class Saves {
        // All are made here and used again, since a run of calls can't spare an object for each save.
        private final Pool[] kept = new Pool[SAVES];
        int many;

        Saves() {
            for (int k = 0; k < SAVES; k++) {
                kept[k] = new Pool();
            }
        }

        void keep(Pool pool) {
            if (many == SAVES) {
                dropOldest();
            }
            Pool place = kept[many];
            if (place != null) {
                place.copyFrom(pool);
                many++;
            }
        }

        void restore(Pool pool) {
            if (many == 0) {
                return;
            }
            many--;
            Pool place = kept[many];
            if (place != null) {
                pool.copyFrom(place);
            }
        }

        private void dropOldest() {
            Pool oldest = kept[0];
            for (int k = 1; k < SAVES; k++) {
                kept[k - 1] = kept[k];
            }
            kept[SAVES - 1] = oldest;
            many--;
        }
    }

    /** The buffer, and its reading: order by order, up to the first sign that can't stand there. */
    private static final class Orders {
        private final int[] signs = new int[SIGNS];
        int length;
        // Where the reading stands; when it has stopped: at the wrong sign, or at the end of a text that breaks off.
        int at;
        private boolean stopped;
        int kind;
        int holder;
        int first;
        // A term, the upper number of a span, or how much time passes.
        int second;

        void addSign(int code) {
            if (length < SIGNS) {
                signs[length] = code;
                length++;
            }
        }

        int signAt(int k) {
            return k >= 0 && k < length ? signs[k] : NONE;
        }

        void rewind() {
            at = 0;
            stopped = false;
        }

        /** Reads the whole buffer; true if it is complete orders as a text. */
        boolean readAll() {
            rewind();
            readNext();
            for (int k = 0; k < SIGNS && !stopped && at < length; k++) {
                readNext();
            }
            return !stopped;
        }

        void readNext() {
            if (at > 0) {
                readSign(';');
            }
            if (!stopped) {
                readOrder();
            }
        }

        private void readOrder() {
            kind = signAt(at);
            if (kind != 't' && kind != 'w' && kind != 'g' && kind != 'd') {
                stopped = true;
                return;
            }
            at++;
            switch (kind) {
                case 't':
                    holder = readNumber(0, HOLDERS - 1);
                    readSign('*');
                    second = readNumber(1, MOST_TEXT_TERM);
                    break;
                case 'w':
                    holder = readNumber(0, HOLDERS - 1);
                    readSign('@');
                    first = readNumber(0, NUMBERS - 1);
                    readSign('*');
                    second = readNumber(1, MOST_TEXT_TERM);
                    break;
                case 'g':
                    holder = readNumber(0, HOLDERS - 1);
                    readSign(':');
                    first = readNumber(0, NUMBERS - 1);
                    readSign('-');
                    second = readNumber(first, NUMBERS - 1);
                    break;
                default:
                    second = readNumber(1, MOST_PASS);
                    break;
            }
        }

        private void readSign(int sign) {
            if (stopped || signAt(at) != sign) {
                stopped = true;
            } else {
                at++;
            }
        }

        /** Reads a number of one or two digits; stops at the first sign with which none of the range can go on. */
        private int readNumber(int least, int most) {
            int value = digitAt(at);
            if (stopped || value == NONE || !begins(value, least, most)) {
                stopped = true;
                return NONE;
            }
            at++;
            int digit = digitAt(at);
            if (value > 0 && digit != NONE && isWithin(10 * value + digit, least, most)) {
                value = 10 * value + digit;
                at++;
            }
            if (!isWithin(value, least, most)) {
                stopped = true;
            }
            return value;
        }

        private int digitAt(int k) {
            int sign = signAt(k);
            return sign >= '0' && sign <= '9' ? sign - '0' : NONE;
        }

        private static boolean begins(int digit, int least, int most) {
            boolean asTens = digit > 0 && 10 * digit <= most && 10 * digit + 9 >= least;
            return asTens || isWithin(digit, least, most);
        }

        private static boolean isWithin(int value, int least, int most) {
            return value >= least && value <= most;
        }
    }

    /** The bits of floats and doubles; the library has none to use. */
    private static final class Bits {
        /** For floats from 0 to 1 in the normal range. */
        static int ofFloat(float value) {
            if (!(value > 0.0f)) {
                return 0;
            }
            float rest = value;
            int exponent = 127;
            for (int k = 0; k < 127 && rest < 1.0f; k++) {
                rest = rest * 2.0f;
                exponent--;
            }
            return (exponent << 23) + (int) ((rest - 1.0f) * 8388608.0f);
        }

        /** For doubles from 0 in the normal range. */
        static long ofDouble(double value) {
            if (!(value > 0.0)) {
                return 0L;
            }
            double rest = value;
            long exponent = 1023L;
            for (int k = 0; k < 1023 && rest < 1.0; k++) {
                rest = rest * 2.0;
                exponent--;
            }
            for (int k = 0; k < 1023 && rest >= 2.0; k++) {
                rest = rest / 2.0;
                exponent++;
            }
            return (exponent << 52) + (long) ((rest - 1.0) * 4503599627370496.0);
        }
    }
}
