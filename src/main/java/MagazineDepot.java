import java.util.Arrays;

/**
 * The depot of magazines: caches make buffers in the pages of an arena, and processors keep them made
 * between uses in magazines that a depot trades, full for empty. DOC.md says what each call answers.
 *
 * <p>The calls here look at what they are told; what there is lives in a Depot. One Depot is in deed, one is
 * for calls in thought (a copy that is made anew for each), one is the image that is kept.
 */
public final class MagazineDepot {
    public static final int BAD = -1, NOT = -2, FULL = -3, STATE = -5;
    public static final int VOID = -2000000000;
    public static final long NO = -9223372036854775808L;

    // The host's refusals, and why a run may stop.
    private static final int NOTHING = -11, NO_PLACE = -13, NO_SIZE = -14;
    private static final int TOO_LONG = -6, FAULTY = -100;

    private static final int NONE = -1, ALL = -1;
    private static final int PAGES = 32, PAGE_BYTES = 1024, HEAD = 32, ROOM = PAGE_BYTES - HEAD;
    private static final int MOST_IN_PAGE = 62, SLOTS = PAGES * MOST_IN_PAGE;
    private static final int MOST_CACHES = 4, PROCESSORS = 4, KINDS = 6;
    private static final int MOST_MAGAZINES = 24, MOST_ROUNDS = 8, FIRST_ROUNDS = 2;
    private static final int FIRST_LIMIT = 4, MOST_LIMIT = 99, QUIET_ENOUGH = 3;
    private static final int IS_FREE = 0, IS_LIVE = 1, IS_HELD = 2;
    private static final int LINES = 16, LINE_BYTES = 32, OWNERS = 7;
    private static final int MOST_AHEAD = 40, MOST_DRAWN = 400;
    private static final int TAPE_BYTES = 100, MOST_OPEN = 5, MOST_DIGITS = 3, MOST_STEPS = 400;
    private static final int VARIABLES = 26, BINS = 4, MOST_PLACES = 40;

    private final Depot depot = new Depot();
    private final Depot thought = new Depot();
    private final Depot kept = new Depot();
    private boolean hasImage;
    private final Pile taken = new Pile(MOST_DRAWN);

    private final int[] tape = new int[TAPE_BYTES];
    private int onTape;
    private Trace trace = new Trace();
    private Trace spare = new Trace();
    private boolean hasTrace;
    private final Run runner = new Run();
    private final int[] named = new int[VARIABLES];
    private final int[] namedInThought = new int[VARIABLES];
    private int whyStopped;
    private final Bins bins = new Bins();

    public MagazineDepot() {
        Arrays.fill(named, NONE);
    }

    // ---- caches, takes, gives

    public int cache(int kind, int size, int step) {
        if (kind < 0 || kind >= KINDS || !isMeasure(size, 16, 400) || !isMeasure(step, 8, 64)) {
            return BAD;
        }
        int number = depot.addCache(kind, size, step);
        return number == NONE ? FULL : number;
    }

    public int limit(int cache, int v) {
        Cache found = depot.cacheAt(cache);
        if (found == null || v < 0 || v > MOST_LIMIT) {
            return BAD;
        }
        int before = found.limit;
        found.limit = v;
        return before;
    }

    public int take(int cache, int processor) {
        if (depot.cacheAt(cache) == null || !isProcessor(processor)) {
            return BAD;
        }
        int slot = depot.takeBy(cache, processor);
        return slot == NONE ? FULL : depot.arena.addressOf(slot);
    }

    public int give(int address, int processor) {
        int slot = depot.arena.slotOf(address);
        if (!depot.arena.isLive(slot) || !isProcessor(processor)) {
            return BAD;
        }
        if (!depot.isFit(slot)) {
            return STATE;
        }
        depot.giveBy(slot, processor);
        return depot.arena.howMany(depot.arena.cacheOfSlot(slot), IS_HELD);
    }

    public int write(int address, int v) {
        int slot = depot.arena.slotOf(address);
        if (!depot.arena.isLive(slot)) {
            return BAD;
        }
        depot.arena.setWord(slot, v);
        return 1;
    }

    public long word(int address) {
        int slot = depot.arena.slotOf(address);
        int state = depot.arena.stateOf(slot);
        return state == IS_LIVE || state == IS_HELD ? depot.arena.wordAt(slot) : NO;
    }

    public int hold(int address) {
        return turnLock(address, 1);
    }

    public int letGo(int address) {
        return turnLock(address, 0);
    }

    public int interval() {
        return depot.endInterval();
    }

    public int drain(int cache, int processor) {
        Cache found = depot.cacheAt(cache);
        if (found == null || !isProcessor(processor)) {
            return BAD;
        }
        int before = found.ended;
        depot.unmakeOf(found, processor);
        return found.ended - before;
    }

    public int reap(int cache) {
        return depot.cacheAt(cache) == null ? BAD : depot.arena.freePagesOf(cache);
    }

    // ---- what there is

    public int state(int address) {
        if (!isByte(address)) {
            return BAD;
        }
        int state = depot.arena.stateOf(depot.arena.slotOf(address));
        return state == NONE ? NOT : state;
    }

    public int owner(int at) {
        return isByte(at) ? depot.arena.ownerOf(at) : BAD;
    }

    public int bytes(int owner) {
        if (owner < 0 || owner >= OWNERS) {
            return BAD;
        }
        int sum = 0;
        for (int page = 0; page < PAGES; page++) {
            sum += depot.arena.bytesIn(page, owner);
        }
        return sum;
    }

    public int page(int page, int what) {
        if (page < 0 || page >= PAGES || what < 0 || what > 4) {
            return BAD;
        }
        if (depot.arena.cacheOf[page] == NONE) {
            return NOT;
        }
        switch (what) {
            case 0:
                return depot.arena.cacheOf[page];
            case 1:
                return depot.arena.colours[page];
            case 2:
                return depot.arena.tailOf(page);
            case 3:
                return depot.arena.inPage(page, IS_FREE);
            default:
                int slot = depot.arena.firstFreeIn(page);
                return slot == NONE ? NOT : depot.arena.addressOf(slot);
        }
    }

    public long map(int page, int what) {
        if (page < 0 || page >= PAGES || what < 0 || what > 1) {
            return BAD;
        }
        if (depot.arena.cacheOf[page] == NONE) {
            return NOT;
        }
        return what == 0 ? depot.arena.free[page] : depot.arena.live[page];
    }

    public int of(int cache, int what) {
        Cache found = depot.cacheAt(cache);
        if (found == null || what < 0 || what > 15) {
            return BAD;
        }
        return what == 12 ? depot.arena.slabsOf(cache) : found.tells(what);
    }

    public long tally(int cache) {
        Cache found = depot.cacheAt(cache);
        return found == null ? NO : found.tally;
    }

    public int magazine(int cache, int processor, int what) {
        Cache found = depot.cacheAt(cache);
        if (found == null || !isProcessor(processor) || what < 0 || what > 3) {
            return BAD;
        }
        Pile told = depot.magazineAt(what < 2 ? found.loaded[processor] : found.previous[processor]);
        if (told == null) {
            return NOT;
        }
        if (what % 2 == 0) {
            return told.size;
        }
        return told.size == 0 ? NOT : depot.arena.addressOf(told.latest());
    }

    public int lines(int cache, int what) {
        if (depot.cacheAt(cache) == null || what < 0 || what > 1) {
            return BAD;
        }
        int[] starts = depot.arena.startsOnLines(cache);
        int spread = 0;
        int pairs = 0;
        for (int n : starts) {
            spread += n > 0 ? 1 : 0;
            pairs += n * (n - 1) / 2;
        }
        return what == 0 ? spread : pairs;
    }

    // ---- in thought

    public int ahead(int cache, int processor, int n, int k) {
        if (!isForTakes(cache, processor, n) || k < 0 || k >= n) {
            return BAD;
        }
        thought.copyFrom(depot);
        int slot = NONE;
        for (int i = 0; i <= k; i++) {
            slot = thought.takeBy(cache, processor);
        }
        return slot == NONE ? NOT : thought.arena.addressOf(slot);
    }

    public int trip(int cache, int processor, int n, int what) {
        if (!isForTakes(cache, processor, n) || what < 0 || what > 2) {
            return VOID;
        }
        thought.copyFrom(depot);
        taken.clear();
        for (int i = 0; i < n; i++) {
            int slot = thought.takeBy(cache, processor);
            if (slot != NONE) {
                taken.put(slot);
            }
        }
        int howMany = taken.size;
        for (int i = 0; i < howMany; i++) {
            thought.giveBy(taken.takeLatest(), processor);
        }
        if (what == 0) {
            return thought.visits - depot.visits;
        }
        return what == 1 ? howMany : thought.made - depot.made;
    }

    public int drawn(int seed, int n, int what) {
        if (n < 1 || n > MOST_DRAWN || what < 0 || what > 3) {
            return BAD;
        }
        thought.copyFrom(depot);
        taken.clear();
        int full = 0;
        int z = seed;
        for (int i = 0; i < n; i++) {
            z = z * 1103515245 + 12345;
            full += drawAct(z);
        }
        switch (what) {
            case 0:
                return thought.visits - depot.visits;
            case 1:
                return thought.made;
            case 2:
                return full;
            default:
                return thought.arena.howMany(ALL, IS_LIVE);
        }
    }

    // ---- traces

    public int feed(int letter) {
        if (letter < 0 || letter > 255) {
            return BAD;
        }
        if (onTape >= TAPE_BYTES) {
            return FULL;
        }
        tape[onTape] = letter;
        onTape++;
        return onTape;
    }

    public int trace() {
        int fault = spare.read(tape, onTape);
        onTape = 0;
        if (fault != NONE) {
            return FAULTY - fault;
        }
        Trace read = spare;
        spare = trace;
        trace = read;
        hasTrace = true;
        return 1;
    }

    public int run() {
        if (!hasTrace) {
            return STATE;
        }
        runner.goThrough(trace, depot, named);
        whyStopped = runner.why;
        return runner.steps;
    }

    public int why() {
        return whyStopped;
    }

    public int dry(int what) {
        if (what < 0 || what > 3 || !hasTrace) {
            return VOID;
        }
        thought.copyFrom(depot);
        System.arraycopy(named, 0, namedInThought, 0, VARIABLES);
        runner.goThrough(trace, thought, namedInThought);
        switch (what) {
            case 0:
                return runner.steps;
            case 1:
                return runner.why;
            case 2:
                return thought.visits - depot.visits;
            default:
                return thought.arena.howMany(ALL, IS_LIVE);
        }
    }

    public int tuned(int what) {
        if (what < 0 || what > 1) {
            return BAD;
        }
        if (!hasTrace) {
            return STATE;
        }
        int best = 0;
        int fewest = 0;
        for (int rounds = 1; rounds <= MOST_ROUNDS; rounds++) {
            thought.copyFrom(depot);
            thought.startAnew(rounds);
            System.arraycopy(named, 0, namedInThought, 0, VARIABLES);
            runner.goThrough(trace, thought, namedInThought);
            int visits = thought.visits - depot.visits;
            if (best == 0 || visits < fewest) {
                best = rounds;
                fewest = visits;
            }
        }
        return what == 0 ? best : fewest;
    }

    public int names(int variable) {
        if (variable < 0 || variable >= VARIABLES) {
            return BAD;
        }
        return named[variable] == NONE ? NOT : named[variable];
    }

    public int image() {
        kept.copyFrom(depot);
        hasImage = true;
        return depot.cacheCount;
    }

    public int back() {
        if (!hasImage) {
            return STATE;
        }
        depot.copyFrom(kept);
        return depot.cacheCount;
    }

    // ---- bins

    public int bin(int bin, int n) {
        if (!bins.isNumber(bin) || n > MOST_PLACES) {
            return BAD;
        }
        if (n < 0) {
            return NO_SIZE;
        }
        bins.begin(bin, n);
        return 1;
    }

    public int lay(int bin, int i, int address) {
        if (!bins.isNumber(bin)) {
            return BAD;
        }
        if (address != NONE && !depot.arena.isLive(depot.arena.slotOf(address))) {
            return BAD;
        }
        if (bins.isMissing(bin)) {
            return NOTHING;
        }
        if (!bins.hasPlace(bin, i)) {
            return NO_PLACE;
        }
        bins.set(bin, i, address);
        return 1;
    }

    public int at(int bin, int i) {
        if (!bins.isNumber(bin)) {
            return BAD;
        }
        if (bins.isMissing(bin)) {
            return NOTHING;
        }
        if (!bins.hasPlace(bin, i)) {
            return NO_PLACE;
        }
        int address = bins.get(bin, i);
        return address == NONE ? NOTHING : address;
    }

    public int pour(int bin, int i, int n, int processor) {
        if (!bins.isNumber(bin) || n < 0 || n > MOST_PLACES || !isProcessor(processor)) {
            return BAD;
        }
        for (int k = 0; k < n; k++) {
            // A bin or a place that is missing answers NONE, at which no buffer begins.
            int slot = depot.arena.slotOf(bins.get(bin, i + k));
            if (!depot.arena.isLive(slot) || !depot.isFit(slot)) {
                return k;
            }
            depot.giveBy(slot, processor);
            bins.set(bin, i + k, NONE);
        }
        return n;
    }

    public int shift(int bin, int i, int other, int j, int n) {
        if (!bins.isNumber(bin) || !bins.isNumber(other)) {
            return BAD;
        }
        if (bins.isMissing(bin) || bins.isMissing(other)) {
            return NOTHING;
        }
        if (!bins.hasSpan(bin, i, n) || !bins.hasSpan(other, j, n)) {
            return NO_PLACE;
        }
        bins.move(bin, i, other, j, n);
        return n;
    }

    public int count(int what) {
        switch (what) {
            case 0:
                return depot.cacheCount;
            case 1:
                return depot.made;
            case 2:
                return depot.arena.slabsOf(NONE);
            case 3:
                return onTape;
            case 4:
                return depot.intervals;
            case 5:
                return namedCount();
            case 6:
                return depot.arena.howMany(ALL, IS_LIVE);
            case 7:
                return depot.arena.howMany(ALL, IS_HELD);
            default:
                return BAD;
        }
    }

    // ---- of use to several calls

    private static boolean isMeasure(int v, int least, int most) {
        return v >= least && v <= most && v % 8 == 0;
    }

    private static boolean isProcessor(int processor) {
        return processor >= 0 && processor < PROCESSORS;
    }

    private static boolean isByte(int at) {
        return at >= 0 && at < PAGES * PAGE_BYTES;
    }

    private boolean isForTakes(int cache, int processor, int n) {
        return depot.cacheAt(cache) != null && isProcessor(processor) && n >= 1 && n <= MOST_AHEAD;
    }

    /** The lowest bit of a LOCK's WORD becomes 'bit': 1; 0: it was. */
    private int turnLock(int address, int bit) {
        int slot = depot.arena.slotOf(address);
        if (!depot.arena.isLive(slot)) {
            return BAD;
        }
        Cache cache = depot.cacheAt(depot.arena.cacheOfSlot(slot));
        if (cache == null || !Kind.isLock(cache.kind)) {
            return STATE;
        }
        int word = depot.arena.wordAt(slot);
        if ((word & 1) == bit) {
            return 0;
        }
        depot.arena.setWord(slot, word ^ 1);
        return 1;
    }

    /** One act by a draw: 1 if it was a TAKE that was FULL, else 0. */
    private int drawAct(int z) {
        int processor = z >>> 8 & 3;
        int act = (z >>> 16) % 5;
        if (act == 0) {
            thought.endInterval();
        } else if (act <= 2) {
            if (taken.size > 0) {
                thought.giveBy(taken.takeLatest(), processor);
            }
        } else if (thought.cacheCount > 0) {
            int slot = thought.takeBy((z >>> 10) % thought.cacheCount, processor);
            if (slot == NONE) {
                return 1;
            }
            taken.put(slot);
        }
        return 0;
    }

    private int namedCount() {
        int n = 0;
        for (int address : named) {
            n += address == NONE ? 0 : 1;
        }
        return n;
    }

    /** What the KINDS tell: each lays its own part over what the KIND above it tells. */
    private static final class Kind {
        static final int ZERO = 1, STAMP = 2, RING = 3, LOCK = 4, COUNT = 5;

        static boolean isLock(int kind) {
            return kind == LOCK || kind == COUNT;
        }

        static int makes(int kind, int address) {
            boolean isZero = kind == ZERO || kind == STAMP || kind == RING;
            int word = isZero ? 0 : address & 255;
            if (kind == STAMP || kind == RING) {
                word ^= address >>> 3;
            }
            if (kind == RING) {
                word = word << 5 | word >>> 27;
            }
            if (kind == COUNT) {
                word <<= 1;
            }
            return word;
        }

        static boolean fits(int kind, int address, int word) {
            switch (kind) {
                case ZERO:
                case STAMP:
                case RING:
                    return word == makes(kind, address);
                case LOCK:
                    return (word & 1) == 0;
                case COUNT:
                    return (word & 1) == 0 && word >= 0;
                default:
                    return true;
            }
        }

        static long ends(int kind, int word) {
            long left = word & 15;
            if (kind == STAMP || kind == RING) {
                left += 1;
            }
            if (kind == COUNT) {
                left *= 3;
            }
            return left;
        }
    }

    /** Numbers one on the other; the latest put on is the first taken off. */
    private static final class Pile {
        private final int[] rows;
        int size;

        Pile(int most) {
            rows = new int[most < 0 ? 0 : most];
        }

        void copyFrom(Pile other) {
            int n = Math.min(other.size, rows.length);
            System.arraycopy(other.rows, 0, rows, 0, n);
            size = n;
        }

        void clear() {
            size = 0;
        }

        void put(int v) {
            if (size < rows.length) {
                rows[size] = v;
                size++;
            }
        }

        int get(int i) {
            return i >= 0 && i < size ? rows[i] : NONE;
        }

        int latest() {
            return size > 0 ? rows[size - 1] : NONE;
        }

        int takeLatest() {
            if (size == 0) {
                return NONE;
            }
            size--;
            return rows[size];
        }

        void dropFirst(int n) {
            int dropped = Math.max(0, Math.min(n, size));
            System.arraycopy(rows, dropped, rows, 0, size - dropped);
            size -= dropped;
        }
    }

    /**
     * The PAGES and the BUFFERS of the SLABS in them. A slot is a BUFFER's number: its PAGE times 62, and how
     * many of the PAGE are ahead of it. A BUFFER that is neither free nor live is held in a MAGAZINE.
     */
    private static final class Arena {
        final int[] cacheOf = new int[PAGES];
        final int[] colours = new int[PAGES];
        final int[] sizes = new int[PAGES];
        final int[] pers = new int[PAGES];
        final long[] free = new long[PAGES];
        final long[] live = new long[PAGES];
        private final int[] words = new int[SLOTS];
        private final int[] starts = new int[LINES];

        Arena() {
            Arrays.fill(cacheOf, NONE);
        }

        void copyFrom(Arena other) {
            System.arraycopy(other.cacheOf, 0, cacheOf, 0, PAGES);
            System.arraycopy(other.colours, 0, colours, 0, PAGES);
            System.arraycopy(other.sizes, 0, sizes, 0, PAGES);
            System.arraycopy(other.pers, 0, pers, 0, PAGES);
            System.arraycopy(other.free, 0, free, 0, PAGES);
            System.arraycopy(other.live, 0, live, 0, PAGES);
            System.arraycopy(other.words, 0, words, 0, SLOTS);
        }

        /** The slot of the BUFFER that begins at an ADDRESS, or NONE. */
        int slotOf(int address) {
            if (!isByte(address)) {
                return NONE;
            }
            int page = address / PAGE_BYTES;
            int size = sizes[page];
            if (cacheOf[page] == NONE || size <= 0) {
                return NONE;
            }
            int offset = address % PAGE_BYTES - HEAD - colours[page];
            if (offset < 0 || offset % size != 0 || offset / size >= pers[page]) {
                return NONE;
            }
            return page * MOST_IN_PAGE + offset / size;
        }

        int addressOf(int slot) {
            if (slot < 0 || slot >= SLOTS) {
                return NONE;
            }
            int page = slot / MOST_IN_PAGE;
            return page * PAGE_BYTES + HEAD + colours[page] + slot % MOST_IN_PAGE * sizes[page];
        }

        int cacheOfSlot(int slot) {
            return slot >= 0 && slot < SLOTS ? cacheOf[slot / MOST_IN_PAGE] : NONE;
        }

        int wordAt(int slot) {
            return slot >= 0 && slot < SLOTS ? words[slot] : 0;
        }

        void setWord(int slot, int word) {
            if (slot >= 0 && slot < SLOTS) {
                words[slot] = word;
            }
        }

        int stateOf(int slot) {
            if (slot < 0 || slot >= SLOTS) {
                return NONE;
            }
            long bit = 1L << slot % MOST_IN_PAGE;
            if ((free[slot / MOST_IN_PAGE] & bit) != 0) {
                return IS_FREE;
            }
            return (live[slot / MOST_IN_PAGE] & bit) != 0 ? IS_LIVE : IS_HELD;
        }

        boolean isLive(int slot) {
            return stateOf(slot) == IS_LIVE;
        }

        void mark(int slot, int state) {
            if (slot < 0 || slot >= SLOTS) {
                return;
            }
            int page = slot / MOST_IN_PAGE;
            long bit = 1L << slot % MOST_IN_PAGE;
            free[page] = state == IS_FREE ? free[page] | bit : free[page] & ~bit;
            live[page] = state == IS_LIVE ? live[page] | bit : live[page] & ~bit;
        }

        /** A SLAB of a CACHE in the first free PAGE: that PAGE, or NONE. */
        int beginSlab(int number, Cache cache) {
            for (int page = 0; page < PAGES; page++) {
                if (cacheOf[page] == NONE) {
                    cacheOf[page] = number;
                    colours[page] = cache.nextColour;
                    sizes[page] = cache.size;
                    pers[page] = cache.per;
                    free[page] = allOf(cache.per);
                    live[page] = 0;
                    return page;
                }
            }
            return NONE;
        }

        /** PAGES of a CACHE all of whose BUFFERS are FREE are free then: how many. */
        int freePagesOf(int number) {
            int n = 0;
            for (int page = 0; page < PAGES; page++) {
                if (cacheOf[page] == number && free[page] == allOf(pers[page])) {
                    cacheOf[page] = NONE;
                    pers[page] = 0;
                    free[page] = 0;
                    n++;
                }
            }
            return n;
        }

        private static long allOf(int per) {
            return (1L << per) - 1;
        }

        int firstPageWithFree(int number) {
            for (int page = 0; page < PAGES; page++) {
                if (cacheOf[page] == number && free[page] != 0) {
                    return page;
                }
            }
            return NONE;
        }

        int firstFreeIn(int page) {
            if (page < 0 || page >= PAGES || free[page] == 0) {
                return NONE;
            }
            long lowest = free[page] & -free[page];
            return page * MOST_IN_PAGE + Long.bitCount(lowest - 1);
        }

        /** How many SLABS a CACHE has; of NONE: how many PAGES are free. */
        int slabsOf(int number) {
            int n = 0;
            for (int owner : cacheOf) {
                n += owner == number ? 1 : 0;
            }
            return n;
        }

        /** How many BUFFERS of a CACHE, or of ALL, are in a state. */
        int howMany(int number, int state) {
            int n = 0;
            for (int page = 0; page < PAGES; page++) {
                if (cacheOf[page] != NONE && (number == ALL || cacheOf[page] == number)) {
                    n += inPage(page, state);
                }
            }
            return n;
        }

        int inPage(int page, int state) {
            if (page < 0 || page >= PAGES) {
                return 0;
            }
            int frees = Long.bitCount(free[page]);
            int lives = Long.bitCount(live[page]);
            if (state == IS_FREE) {
                return frees;
            }
            return state == IS_LIVE ? lives : pers[page] - frees - lives;
        }

        int tailOf(int page) {
            if (page < 0 || page >= PAGES) {
                return 0;
            }
            return ROOM - colours[page] - pers[page] * sizes[page];
        }

        int ownerOf(int at) {
            if (!isByte(at) || cacheOf[at / PAGE_BYTES] == NONE) {
                return 0;
            }
            int page = at / PAGE_BYTES;
            int offset = at % PAGE_BYTES - HEAD;
            if (offset < 0) {
                return 1;
            }
            offset -= colours[page];
            if (offset < 0) {
                return 2;
            }
            int size = sizes[page];
            if (size <= 0 || offset / size >= pers[page]) {
                return 3;
            }
            int state = stateOf(page * MOST_IN_PAGE + offset / size);
            return state == IS_LIVE ? 4 : state == IS_HELD ? 5 : 6;
        }

        int bytesIn(int page, int owner) {
            if (page < 0 || page >= PAGES || cacheOf[page] == NONE) {
                return owner == 0 ? PAGE_BYTES : 0;
            }
            switch (owner) {
                case 1:
                    return HEAD;
                case 2:
                    return colours[page];
                case 3:
                    return tailOf(page);
                case 4:
                    return inPage(page, IS_LIVE) * sizes[page];
                case 5:
                    return inPage(page, IS_HELD) * sizes[page];
                case 6:
                    return inPage(page, IS_FREE) * sizes[page];
                default:
                    return 0;
            }
        }

        /** How many LIVE ones of a CACHE begin on each LINE (a row that the next call uses again). */
        int[] startsOnLines(int number) {
            Arrays.fill(starts, 0);
            for (int page = 0; page < PAGES; page++) {
                for (int i = 0; i < MOST_IN_PAGE && cacheOf[page] == number; i++) {
                    if ((live[page] & 1L << i) != 0) {
                        starts[addressOf(page * MOST_IN_PAGE + i) / LINE_BYTES % LINES]++;
                    }
                }
            }
            return starts;
        }
    }

    /** A CACHE, and which of the MAGAZINES are its own: with its PROCESSORS and at THE DEPOT. */
    private static final class Cache {
        int kind, size, step, per;
        int rounds, limit, visits, quiet;
        int leastFull, leastEmpty;
        int nextColour, made, ended;
        long tally;
        final int[] loaded = new int[PROCESSORS];
        final int[] previous = new int[PROCESSORS];
        final Pile full = new Pile(MOST_MAGAZINES);
        final Pile empty = new Pile(MOST_MAGAZINES);

        void begin(int ofKind, int ofSize, int ofStep) {
            kind = ofKind;
            size = ofSize;
            step = ofStep;
            per = ofSize > 0 ? ROOM / ofSize : 0;
            rounds = FIRST_ROUNDS;
            limit = FIRST_LIMIT;
            quiet = 0;
            nextColour = 0;
            made = 0;
            ended = 0;
            tally = 0;
            loseMagazines();
            beginInterval();
        }

        void loseMagazines() {
            full.clear();
            empty.clear();
            Arrays.fill(loaded, NONE);
            Arrays.fill(previous, NONE);
        }

        void copyFrom(Cache other) {
            kind = other.kind;
            size = other.size;
            step = other.step;
            per = other.per;
            rounds = other.rounds;
            limit = other.limit;
            visits = other.visits;
            quiet = other.quiet;
            leastFull = other.leastFull;
            leastEmpty = other.leastEmpty;
            nextColour = other.nextColour;
            made = other.made;
            ended = other.ended;
            tally = other.tally;
            full.copyFrom(other.full);
            empty.copyFrom(other.empty);
            System.arraycopy(other.loaded, 0, loaded, 0, PROCESSORS);
            System.arraycopy(other.previous, 0, previous, 0, PROCESSORS);
        }

        int tells(int what) {
            switch (what) {
                case 0: return kind;
                case 1: return size;
                case 2: return step;
                case 3: return per;
                case 4: return rounds;
                case 5: return limit;
                case 6: return visits;
                case 7: return quiet;
                case 8: return full.size;
                case 9: return empty.size;
                case 10: return leastFull;
                case 11: return leastEmpty;
                case 13: return nextColour;
                case 14: return made;
                case 15: return ended;
                default: return BAD;
            }
        }

        void moveColour() {
            int next = nextColour + step;
            nextColour = next <= ROOM - per * size ? next : 0;
        }

        void exchange(int processor) {
            if (isProcessor(processor)) {
                int id = loaded[processor];
                loaded[processor] = previous[processor];
                previous[processor] = id;
            }
        }

        int fetchFull() {
            int id = full.takeLatest();
            leastFull = Math.min(leastFull, full.size);
            return id;
        }

        int fetchEmpty() {
            int id = empty.takeLatest();
            leastEmpty = Math.min(leastEmpty, empty.size);
            return id;
        }

        /** ROUNDS and QUIET follow the VISITS of the INTERVAL that ends: whether ROUNDS changed. */
        boolean followVisits() {
            if (visits > limit && rounds < MOST_ROUNDS) {
                quiet = 0;
                rounds++;
                return true;
            }
            quiet = visits == 0 ? quiet + 1 : 0;
            if (quiet < QUIET_ENOUGH) {
                return false;
            }
            quiet = 0;
            if (rounds <= 1) {
                return false;
            }
            rounds--;
            return true;
        }

        void beginInterval() {
            visits = 0;
            leastFull = full.size;
            leastEmpty = empty.size;
        }
    }

    /** All that an image keeps: the arena, the CACHES, the MAGAZINES (each told by an id), the INTERVALS. */
    private static final class Depot {
        final Arena arena = new Arena();
        private final Cache[] caches = new Cache[MOST_CACHES];
        private final Pile[] magazines = new Pile[MOST_MAGAZINES];
        private final boolean[] isMade = new boolean[MOST_MAGAZINES];
        int cacheCount;
        int made;
        int intervals;
        /** Of all CACHES, of all INTERVALS: never less, so that a call in thought can tell its own. */
        int visits;

        Depot() {
            for (int i = 0; i < MOST_CACHES; i++) {
                caches[i] = new Cache();
            }
            for (int i = 0; i < MOST_MAGAZINES; i++) {
                magazines[i] = new Pile(MOST_ROUNDS);
            }
        }

        void copyFrom(Depot other) {
            arena.copyFrom(other.arena);
            for (int i = 0; i < MOST_CACHES; i++) {
                caches[i].copyFrom(other.caches[i]);
            }
            for (int i = 0; i < MOST_MAGAZINES; i++) {
                magazines[i].copyFrom(other.magazines[i]);
                isMade[i] = other.isMade[i];
            }
            cacheCount = other.cacheCount;
            made = other.made;
            intervals = other.intervals;
            visits = other.visits;
        }

        Cache cacheAt(int number) {
            return number >= 0 && number < cacheCount && number < MOST_CACHES ? caches[number] : null;
        }

        /** The MAGAZINE of an id, or null. */
        Pile magazineAt(int id) {
            return id >= 0 && id < MOST_MAGAZINES && isMade[id] ? magazines[id] : null;
        }

        int addCache(int kind, int size, int step) {
            if (cacheCount >= MOST_CACHES) {
                return NONE;
            }
            int number = cacheCount;
            caches[number].begin(kind, size, step);
            cacheCount++;
            return number;
        }

        boolean isFit(int slot) {
            Cache cache = cacheAt(arena.cacheOfSlot(slot));
            return cache != null && Kind.fits(cache.kind, arena.addressOf(slot), arena.wordAt(slot));
        }

        /** A TAKE: the slot; NONE if it is FULL. */
        int takeBy(int number, int processor) {
            Cache cache = cacheAt(number);
            if (cache == null || !isProcessor(processor)) {
                return NONE;
            }
            if (!holdsSome(cache.loaded[processor])) {
                loadSome(cache, processor);
            }
            Pile loaded = magazineAt(cache.loaded[processor]);
            if (loaded == null || loaded.size == 0) {
                return takeFree(number, cache);
            }
            int slot = loaded.takeLatest();
            arena.mark(slot, IS_LIVE);
            return slot;
        }

        private boolean holdsSome(int id) {
            Pile magazine = magazineAt(id);
            return magazine != null && magazine.size > 0;
        }

        /** LOADED holds some then, if PREVIOUS does or THE DEPOT has a FULL one. */
        private void loadSome(Cache cache, int processor) {
            if (holdsSome(cache.previous[processor])) {
                cache.exchange(processor);
            } else if (cache.full.size > 0) {
                visit(cache);
                if (cache.previous[processor] != NONE) {
                    cache.empty.put(cache.previous[processor]);
                }
                cache.previous[processor] = cache.loaded[processor];
                cache.loaded[processor] = cache.fetchFull();
            }
        }

        private int takeFree(int number, Cache cache) {
            int page = arena.firstPageWithFree(number);
            if (page == NONE) {
                page = arena.beginSlab(number, cache);
                if (page == NONE) {
                    return NONE;
                }
                cache.moveColour();
            }
            int slot = arena.firstFreeIn(page);
            arena.setWord(slot, Kind.makes(cache.kind, arena.addressOf(slot)));
            arena.mark(slot, IS_LIVE);
            cache.made++;
            return slot;
        }

        /** A GIVE of a LIVE one. */
        void giveBy(int slot, int processor) {
            Cache cache = cacheAt(arena.cacheOfSlot(slot));
            if (cache == null || !isProcessor(processor)) {
                return;
            }
            if (!hasRoom(cache, cache.loaded[processor])) {
                loadRoom(cache, processor);
            }
            Pile loaded = magazineAt(cache.loaded[processor]);
            if (loaded == null || loaded.size >= cache.rounds) {
                endBuffer(cache, slot);
                return;
            }
            loaded.put(slot);
            arena.mark(slot, IS_HELD);
        }

        private boolean hasRoom(Cache cache, int id) {
            Pile magazine = magazineAt(id);
            return magazine != null && magazine.size < cache.rounds;
        }

        /** LOADED has room then, if PREVIOUS has or an EMPTY one can be fetched or MADE. */
        private void loadRoom(Cache cache, int processor) {
            if (hasRoom(cache, cache.previous[processor])) {
                cache.exchange(processor);
                return;
            }
            int id = cache.empty.size > 0 ? cache.fetchEmpty() : makeMagazine();
            if (id == NONE) {
                return;
            }
            visit(cache);
            if (cache.previous[processor] != NONE) {
                cache.full.put(cache.previous[processor]);
            }
            cache.previous[processor] = cache.loaded[processor];
            cache.loaded[processor] = id;
        }

        private void visit(Cache cache) {
            cache.visits++;
            visits++;
        }

        private int makeMagazine() {
            for (int id = 0; id < MOST_MAGAZINES; id++) {
                if (!isMade[id]) {
                    isMade[id] = true;
                    magazines[id].clear();
                    made++;
                    return id;
                }
            }
            return NONE;
        }

        private void endBuffer(Cache cache, int slot) {
            cache.tally += Kind.ends(cache.kind, arena.wordAt(slot));
            cache.ended++;
            arena.mark(slot, IS_FREE);
        }

        /** A MAGAZINE is EMPTIED and UNMADE. */
        private void unmake(Cache cache, int id) {
            Pile magazine = magazineAt(id);
            if (magazine == null) {
                return;
            }
            for (int i = 0; i < magazine.size; i++) {
                endBuffer(cache, magazine.get(i));
            }
            magazine.clear();
            isMade[id] = false;
            made--;
        }

        private void unmakeFirst(Cache cache, Pile brought, int n) {
            for (int i = 0; i < n && i < brought.size; i++) {
                unmake(cache, brought.get(i));
            }
            brought.dropFirst(n);
        }

        /** LOADED and PREVIOUS of a PROCESSOR are EMPTIED and UNMADE. */
        void unmakeOf(Cache cache, int processor) {
            if (!isProcessor(processor)) {
                return;
            }
            unmake(cache, cache.loaded[processor]);
            unmake(cache, cache.previous[processor]);
            cache.loaded[processor] = NONE;
            cache.previous[processor] = NONE;
        }

        private void unmakeAll(Cache cache) {
            for (int processor = 0; processor < PROCESSORS; processor++) {
                unmake(cache, cache.loaded[processor]);
                unmake(cache, cache.previous[processor]);
            }
            for (int i = 0; i < MOST_MAGAZINES; i++) {
                unmake(cache, cache.full.get(i));
                unmake(cache, cache.empty.get(i));
            }
            cache.loseMagazines();
        }

        /** AN INTERVAL ends: how many MAGAZINES are UNMADE by it. */
        int endInterval() {
            int before = made;
            for (int number = 0; number < cacheCount && number < MOST_CACHES; number++) {
                Cache cache = caches[number];
                unmakeFirst(cache, cache.full, cache.leastFull);
                unmakeFirst(cache, cache.empty, cache.leastEmpty);
                if (cache.followVisits()) {
                    unmakeAll(cache);
                }
                cache.beginInterval();
            }
            intervals++;
            return before - made;
        }

        /** All MAGAZINES of all CACHES are EMPTIED and UNMADE; ROUNDS of all are as told. */
        void startAnew(int rounds) {
            for (int number = 0; number < cacheCount && number < MOST_CACHES; number++) {
                Cache cache = caches[number];
                unmakeAll(cache);
                cache.rounds = rounds;
                // THE DEPOT has had none of its MAGAZINES by now, in this INTERVAL.
                cache.leastFull = 0;
                cache.leastEmpty = 0;
            }
        }
    }

    /**
     * A TEXT that is read into rows, one for each S as it begins and one for each ) that closes. A row that
     * opens and the one that closes it are each other's partners.
     */
    private static final class Trace {
        static final int TAKE = 0, GIVE = 1, SET = 2, TICK = 3, REPEAT = 4, ASK = 5, CLOSE = 6;

        final int[] acts = new int[TAPE_BYTES];
        final int[] variables = new int[TAPE_BYTES];
        final int[] caches = new int[TAPE_BYTES];
        final int[] processors = new int[TAPE_BYTES];
        final int[] numbers = new int[TAPE_BYTES];
        final int[] partners = new int[TAPE_BYTES];
        int size;
        private final Pile open = new Pile(MOST_OPEN);
        private int[] letters = new int[0];
        private int length;
        private int next;

        /** Reads a TEXT: NONE, or the place of its FAULT. */
        int read(int[] from, int n) {
            letters = from;
            length = Math.min(n, from.length);
            next = 0;
            size = 0;
            open.clear();
            for (int parts = 0; parts < length && next < length; parts++) {
                int wereOpen = open.size;
                if (!readBegin()) {
                    return next;
                }
                if (open.size > wereOpen) {
                    continue;
                }
                readCloses();
                if (next >= length && open.size == 0) {
                    return NONE;
                }
                if (!readSign(';')) {
                    return next;
                }
            }
            return next;
        }

        private int letter() {
            return next < length && next < letters.length ? letters[next] : NONE;
        }

        private boolean readSign(char sign) {
            if (letter() != sign) {
                return false;
            }
            next++;
            return true;
        }

        /** Reads one of the signs from 'first' to 'last': which, from 0; NONE: it is at fault. */
        private int readOneOf(char first, char last) {
            int sign = letter();
            if (sign < first || sign > last) {
                return NONE;
            }
            next++;
            return sign - first;
        }

        private int readNumber() {
            int number = readOneOf('0', '9');
            for (int digits = 1; number != NONE && digits < MOST_DIGITS; digits++) {
                int digit = readOneOf('0', '9');
                if (digit == NONE) {
                    break;
                }
                number = number * 10 + digit;
            }
            return number;
        }

        /** Reads an S, or as much of it as ends with its (; false: 'next' is at fault. */
        private boolean readBegin() {
            int sign = letter();
            if (sign == '!') {
                next++;
                return addRow(TICK);
            }
            if (sign == '~') {
                next++;
                return readGive();
            }
            if (sign == '?') {
                next++;
                return readAsk();
            }
            return sign >= '0' && sign <= '9' ? readRepeat() : readNaming();
        }

        private boolean readNaming() {
            int variable = readOneOf('a', 'z');
            if (variable == NONE) {
                return false;
            }
            boolean isTake = readSign('=');
            if (!isTake && !readSign(':')) {
                return false;
            }
            addRow(isTake ? TAKE : SET);
            setInRow(variables, variable);
            return isTake ? readInto(caches) && readSign('@') && readInto(processors) : readNumberInto();
        }

        private boolean readGive() {
            int variable = readOneOf('a', 'z');
            if (variable == NONE) {
                return false;
            }
            addRow(GIVE);
            setInRow(variables, variable);
            return readSign('@') && readInto(processors);
        }

        private boolean readAsk() {
            addRow(ASK);
            return readInto(caches) && readOpen();
        }

        private boolean readRepeat() {
            addRow(REPEAT);
            return readNumberInto() && readOpen();
        }

        private boolean readInto(int[] column) {
            int digit = readOneOf('0', '3');
            setInRow(column, digit);
            return digit != NONE;
        }

        private boolean readNumberInto() {
            int number = readNumber();
            setInRow(numbers, number);
            return number != NONE;
        }

        private boolean readOpen() {
            if (open.size >= MOST_OPEN || !readSign('(')) {
                return false;
            }
            open.put(size - 1);
            return true;
        }

        private void readCloses() {
            for (int left = open.size; left > 0 && readSign(')'); left--) {
                int opener = open.takeLatest();
                addRow(CLOSE);
                setInRow(partners, opener);
                if (opener >= 0 && opener < size) {
                    partners[opener] = size - 1;
                }
            }
        }

        /** There is always room: a row has at least one letter of its own. */
        private boolean addRow(int act) {
            if (size >= acts.length) {
                return false;
            }
            acts[size] = act;
            size++;
            return true;
        }

        /** What is said here is of the row that was added last. */
        private void setInRow(int[] column, int v) {
            if (size > 0 && size <= column.length) {
                column[size - 1] = v;
            }
        }
    }

    /** A RUN through a TRACE, on a Depot, by variables that name ADDRESSES. */
    private static final class Run {
        private static final int MOST_MOVES = 1000000;

        int steps;
        int why;
        private final int[] passesLeft = new int[TAPE_BYTES];
        private Trace trace;
        private Depot depot;
        private int[] named;

        void goThrough(Trace through, Depot on, int[] by) {
            trace = through;
            depot = on;
            named = by;
            steps = 0;
            why = 0;
            int row = 0;
            for (int moves = 0; moves < MOST_MOVES && why == 0 && row >= 0 && row < through.size; moves++) {
                row = move(row);
            }
        }

        /** Does what a row says: the row that comes next, unless WHY says that it stopped. */
        private int move(int row) {
            int act = trace.acts[row];
            if (act == Trace.CLOSE) {
                return close(row);
            }
            if (!step()) {
                return row;
            }
            switch (act) {
                case Trace.TAKE:
                    takeNamed(row);
                    break;
                case Trace.GIVE:
                    giveNamed(row);
                    break;
                case Trace.SET:
                    setNamed(row);
                    break;
                case Trace.TICK:
                    depot.endInterval();
                    break;
                case Trace.REPEAT:
                    passesLeft[row] = trace.numbers[row];
                    return trace.partners[row];
                default:
                    return ask(row);
            }
            return row + 1;
        }

        private boolean step() {
            if (steps >= MOST_STEPS) {
                why = TOO_LONG;
                return false;
            }
            steps++;
            return true;
        }

        /** Another pass begins, if one is left. */
        private int close(int row) {
            int opener = trace.partners[row];
            if (opener < 0 || opener >= passesLeft.length || passesLeft[opener] <= 0) {
                return row + 1;
            }
            if (!step()) {
                return row;
            }
            passesLeft[opener]--;
            return opener + 1;
        }

        private int ask(int row) {
            passesLeft[row] = 0;
            Cache cache = depot.cacheAt(trace.caches[row]);
            if (cache == null) {
                why = BAD;
                return row;
            }
            return cache.full.size > 0 ? row + 1 : trace.partners[row] + 1;
        }

        private void takeNamed(int row) {
            int variable = trace.variables[row];
            if (depot.cacheAt(trace.caches[row]) == null || variable < 0 || variable >= named.length) {
                why = BAD;
                return;
            }
            int slot = depot.takeBy(trace.caches[row], trace.processors[row]);
            if (slot == NONE) {
                why = FULL;
                return;
            }
            named[variable] = depot.arena.addressOf(slot);
        }

        private void giveNamed(int row) {
            int variable = trace.variables[row];
            int slot = liveSlotOf(variable);
            if (slot == NONE) {
                return;
            }
            if (!depot.isFit(slot)) {
                why = STATE;
                return;
            }
            depot.giveBy(slot, trace.processors[row]);
            named[variable] = NONE;
        }

        private void setNamed(int row) {
            int slot = liveSlotOf(trace.variables[row]);
            if (slot != NONE) {
                depot.arena.setWord(slot, trace.numbers[row]);
            }
        }

        /** The slot of the LIVE one that a variable names; NONE: there is none, WHY says so. */
        private int liveSlotOf(int variable) {
            if (variable < 0 || variable >= named.length || named[variable] == NONE) {
                why = NOTHING;
                return NONE;
            }
            int slot = depot.arena.slotOf(named[variable]);
            if (!depot.arena.isLive(slot)) {
                why = BAD;
                return NONE;
            }
            return slot;
        }
    }

    /** The rows that hold BUFFERS by their ADDRESS; NONE is a place that is missing. */
    private static final class Bins {
        private final int[][] places = new int[BINS][MOST_PLACES];
        private final int[] sizes = new int[BINS];

        Bins() {
            Arrays.fill(sizes, NONE);
        }

        boolean isNumber(int bin) {
            return bin >= 0 && bin < BINS;
        }

        boolean isMissing(int bin) {
            return !isNumber(bin) || sizes[bin] == NONE;
        }

        boolean hasPlace(int bin, int i) {
            return isNumber(bin) && i >= 0 && i < sizes[bin];
        }

        /** Whether n places from i on are there. */
        boolean hasSpan(int bin, int i, int n) {
            return isNumber(bin) && i >= 0 && n >= 0 && i <= sizes[bin] && n <= sizes[bin] - i;
        }

        void begin(int bin, int n) {
            if (isNumber(bin) && n >= 0 && n <= MOST_PLACES) {
                Arrays.fill(places[bin], NONE);
                sizes[bin] = n;
            }
        }

        int get(int bin, int i) {
            return hasPlace(bin, i) ? places[bin][i] : NONE;
        }

        void set(int bin, int i, int address) {
            if (hasPlace(bin, i)) {
                places[bin][i] = address;
            }
        }

        void move(int bin, int i, int other, int j, int n) {
            if (hasSpan(bin, i, n) && hasSpan(other, j, n)) {
                System.arraycopy(places[bin], i, places[other], j, n);
            }
        }
    }
}
