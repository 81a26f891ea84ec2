import java.util.NoSuchElementException;

/**
 * Shadow translation for guests: the guest's own tables, the shadow tables that the hardware walks
 * in their stead, and what keeps the two in step. The machine is told as a text.
 */
public final class ShadowPager {
    public static final int NONE = -1;

    private static final int FRAMES = 16;
    private static final int PLACES = 8;
    private static final int PAGES = 64;
    private static final int MODES = 4;
    private static final int HOST_FRAMES = 32;
    private static final int HIGHEST_WORD = 4095;
    private static final int LEAST_POOL = 3;
    private static final int MOST_POOL = 8;
    private static final int TAPE_ROOM = 900;
    private static final int FEED_BYTES = 20;

    private static final int PRESENT = 1;
    private static final int WRITE = 2;
    private static final int USER = 4;
    private static final int SEEN = 8;
    private static final int DIRTY = 16;
    private static final int LARGE = 32;
    private static final int ALL_BITS = 63;

    // a MODE is one number, so that a draw mod 4 is a MODE as it stands
    private static final int TO_WRITE = 1;
    private static final int AS_USER = 2;

    private static final int NOTHING = -2;
    private static final int ABSENT = -2;
    private static final int DENIED = -3;
    private static final int GONE = -4;

    private static final int FREE = -2;
    private static final int ROOT = 0;
    private static final int LEAF = 1;
    private static final int BROKEN = 2;
    private static final int MAY_WRITE = 2;
    private static final int MAY_USER = 1;

    private static final int FORM = 1;
    private static final int TWICE = 3;
    private static final int BOUNDS = 4;
    private static final int MANY = 5;
    private static final int LACKS = 6;

    private static final int NO_SUCH = 1;
    private static final int BAD_NUMBER = 2;
    private static final int NO_ROOM = 3;
    private static final int FAULTY = 4;
    private static final int NOT_SO = 5;
    private static final int NO_ACT = 6;

    private static final int UNDO_ROOM = 16;
    private static final int IMAGE_ROOM = 3;
    private static final int MOST_RUNS = 10;
    private static final int MOST_DRAWN = 200;
    private static final int HIGHEST_SEED = 65536;

    private final Text text = new Text();
    // the text is read into the spare one, so that a faulty one leaves the MACHINE as it is
    private Told told = new Told();
    private Told spare = new Told();
    private boolean ready;
    private final Pager live = new Pager();
    private final Pager trial = new Pager();
    private final Scene[] ring = new Scene[UNDO_ROOM];
    private int newest;
    private int kept;
    private final Scene[] pictures = new Scene[IMAGE_ROOM];
    private int pictured;
    private int refusal;

    public ShadowPager() {
        for (int i = 0; i < UNDO_ROOM; i++) {
            ring[i] = new Scene();
        }
        for (int i = 0; i < IMAGE_ROOM; i++) {
            pictures[i] = new Scene();
        }
    }

    // ---- the machine

    public int feed(int a, int b, int c, int d, int e) {
        if (text.taped + FEED_BYTES > TAPE_ROOM) {
            return NONE;
        }
        text.append(a);
        text.append(b);
        text.append(c);
        text.append(d);
        text.append(e);
        return text.taped;
    }

    public int machine(int n) {
        if (n < 0 || n > text.taped) {
            return refuse(BAD_NUMBER);
        }
        if (!text.reads(n, spare)) {
            return refuse(FAULTY);
        }
        Told fresh = spare;
        spare = told;
        told = fresh;
        begin();
        return answer(told.pool);
    }

    public int fault() {
        return text.badness;
    }

    public int where() {
        return refusal == FAULTY ? text.badPlace : NONE;
    }

    // ---- the guest and the host

    public int word(int f, int i) {
        if (!isFrame(f) || !isPlace(i)) {
            return refuse(NO_SUCH);
        }
        return answer(live.guest.wordAt(f, i));
    }

    public int backing(int f) {
        if (!isFrame(f)) {
            return refuse(NO_SUCH);
        }
        return answer(live.guest.hostOf(f));
    }

    public int writes(int f) {
        if (!isFrame(f)) {
            return refuse(NO_SUCH);
        }
        return answer(bit(live.guest.isWritable(f)));
    }

    public int root() {
        return ready ? answer(live.guest.top) : refuse(NO_SUCH);
    }

    public int marks() {
        return ready ? answer(live.guest.marked) : refuse(NO_SUCH);
    }

    public int wordsWith(int f, int bits) {
        if (!isFrame(f)) {
            return refuse(NO_SUCH);
        }
        if (bits < 1 || bits > ALL_BITS) {
            return refuse(BAD_NUMBER);
        }
        return answer(live.guest.placesWith(f, bits));
    }

    // ---- what tables say

    public int look(int v, boolean write, boolean user) {
        if (!isPage(v)) {
            return refuse(NO_SUCH);
        }
        return answer(live.guest.seek(v, mode(write, user)));
    }

    public int leads(int v) {
        if (!isPage(v)) {
            return refuse(NO_SUCH);
        }
        return answer(live.guest.frameBehind(v));
    }

    public int rights(int v) {
        if (!isPage(v)) {
            return refuse(NO_SUCH);
        }
        return answer(live.guest.modesDone(v));
    }

    public int large(int v) {
        if (!isPage(v)) {
            return refuse(NO_SUCH);
        }
        int upper = live.guest.upperWord(v);
        if (!has(upper, PRESENT)) {
            return answer(NOTHING);
        }
        return answer(bit(has(upper, LARGE)));
    }

    public int aliases(int f) {
        if (!isFrame(f)) {
            return refuse(NO_SUCH);
        }
        return answer(live.guest.pagesTo(f));
    }

    public int tables() {
        return ready ? answer(live.guest.tableFrames()) : refuse(NO_SUCH);
    }

    // ---- what the hardware does

    public int hits(int v, boolean write, boolean user) {
        if (!isPage(v)) {
            return refuse(NO_SUCH);
        }
        return answer(live.hostByHardware(v, mode(write, user)));
    }

    public int stale() {
        return ready ? answer(live.staleWays()) : refuse(NO_SUCH);
    }

    public int staleAt() {
        return ready ? answer(live.firstStalePage()) : refuse(NO_SUCH);
    }

    public int missing() {
        return ready ? answer(live.missingWays()) : refuse(NO_SUCH);
    }

    // ---- shadow tables

    public int shadow(int n, int what) {
        if (!isTable(n) || what < 0 || what > 5) {
            return refuse(NO_SUCH);
        }
        return answer(live.pool.property(n, what));
    }

    public int entry(int n, int i) {
        if (!isTable(n) || !isPlace(i)) {
            return refuse(NO_SUCH);
        }
        return answer(live.pool.entryAt(n, i));
    }

    public int maps(int f) {
        if (!isFrame(f)) {
            return refuse(NO_SUCH);
        }
        return answer(live.pool.countMaps(f, 0));
    }

    public int writers(int f) {
        if (!isFrame(f)) {
            return refuse(NO_SUCH);
        }
        return answer(live.pool.countMaps(f, MAY_WRITE));
    }

    public int watched(int f) {
        if (!isFrame(f)) {
            return refuse(NO_SUCH);
        }
        return answer(bit(live.pool.watches(f)));
    }

    public int outOfStep() {
        return ready ? answer(live.pool.astray) : refuse(NO_SUCH);
    }

    public int dropsNext() {
        if (!ready) {
            return refuse(NO_SUCH);
        }
        return answer(live.pool.freeAt(0) >= 0 ? NOTHING : live.pool.oldestBeside(live.guest.top));
    }

    // ---- runs

    public int runFaults(int pool) {
        if (!mayRun(pool)) {
            return NONE;
        }
        runTold(pool);
        return answer(trial.faults);
    }

    public int runRefused(int pool) {
        if (!mayRun(pool)) {
            return NONE;
        }
        runTold(pool);
        return answer(trial.undone);
    }

    public int runDrops(int pool) {
        if (!mayRun(pool)) {
            return NONE;
        }
        runTold(pool);
        return answer(trial.drops);
    }

    public int poolFor(int k) {
        if (!ready) {
            return refuse(NO_SUCH);
        }
        if (k < 0 || k > MOST_RUNS) {
            return refuse(BAD_NUMBER);
        }
        for (int pool = LEAST_POOL; pool <= MOST_POOL; pool++) {
            runTold(pool);
            if (trial.faults <= k) {
                return answer(pool);
            }
        }
        return answer(NOTHING);
    }

    public int sweep(int v, int to) {
        if (!isPage(v) || !isPage(to)) {
            return refuse(NO_SUCH);
        }
        if (to < v) {
            return refuse(BAD_NUMBER);
        }
        trial.startFrom(live.scene);
        for (int page = v; page <= to; page++) {
            trial.reach(page, 0);
        }
        return answer(trial.faults);
    }

    public int drawnFaults(int seed, int n) {
        if (!mayDraw(seed, n)) {
            return NONE;
        }
        runDrawn(seed, n);
        return answer(trial.faults);
    }

    public int drawnMarks(int seed, int n) {
        if (!mayDraw(seed, n)) {
            return NONE;
        }
        runDrawn(seed, n);
        return answer(trial.guest.marked);
    }

    public long rate(boolean lower) {
        if (!ready) {
            return refuse(NO_SUCH);
        }
        int all = live.hitCount + live.faults;
        int shared = divisor(all, live.hitCount);
        if (shared == 0) {
            return answer(bit(lower));
        }
        return answer((lower ? all : live.hitCount) / shared);
    }

    // ---- unsure words

    public int fits() {
        return ready ? answer(Integer.bitCount(fitting())) : refuse(NO_SUCH);
    }

    public int fitAt(int i) {
        int set = ready ? Guesses.setAt(fitting(), i) : NONE;
        return set == NONE ? refuse(NO_SUCH) : answer(set);
    }

    public int could() {
        return ready ? answer(Guesses.inSome(fitting())) : refuse(NO_SUCH);
    }

    public int surely() {
        return ready ? answer(Guesses.inAll(fitting())) : refuse(NO_SUCH);
    }

    public int ask() {
        return ready ? answer(Guesses.bestToAsk(fitting(), told.doubts)) : refuse(NO_SUCH);
    }

    public int askLeaves() {
        if (!ready) {
            return refuse(NO_SUCH);
        }
        int fitting = fitting();
        int best = Guesses.bestToAsk(fitting, told.doubts);
        return answer(best < 0 ? NOTHING : Guesses.leftAtMost(fitting, best));
    }

    public int judge() {
        return ready ? answer(told.firstUntrue(told.start)) : refuse(NO_SUCH);
    }

    // ---- acts

    public int access(int v, boolean write, boolean user) {
        if (!isPage(v)) {
            return refuse(NO_SUCH);
        }
        keep();
        return answer(live.reach(v, mode(write, user)));
    }

    public int store(int v, int i, int value, boolean user) {
        if (!isPage(v) || !isPlace(i)) {
            return refuse(NO_SUCH);
        }
        if (!isWord(value)) {
            return refuse(BAD_NUMBER);
        }
        keep();
        return answer(live.put(v, i, value, mode(true, user)));
    }

    public int load(int f) {
        if (!isFrame(f)) {
            return refuse(NO_SUCH);
        }
        keep();
        return answer(live.takeRoot(f));
    }

    public int flush(int v) {
        if (!isPage(v)) {
            return refuse(NO_SUCH);
        }
        keep();
        return answer(live.forget(v));
    }

    public int device(int f, int i, int value) {
        if (!isFrame(f) || !isPlace(i)) {
            return refuse(NO_SUCH);
        }
        if (!isWord(value)) {
            return refuse(BAD_NUMBER);
        }
        if (!live.guest.isBacked(f)) {
            return refuse(NOT_SO);
        }
        keep();
        return answer(live.putPastWatching(f, i, value));
    }

    public int unmap(int f) {
        if (!isFrame(f)) {
            return refuse(NO_SUCH);
        }
        if (!live.guest.isBacked(f)) {
            return refuse(NOT_SO);
        }
        keep();
        live.guest.takeAway(f);
        return answer(live.pool.removeMaps(f));
    }

    public boolean give(int f, int host, boolean writes) {
        if (!isFrame(f)) {
            return declines(NO_SUCH);
        }
        if (host < 0 || host >= HOST_FRAMES) {
            return declines(BAD_NUMBER);
        }
        if (live.guest.isBacked(f) || live.guest.isTaken(host)) {
            return declines(NOT_SO);
        }
        keep();
        live.guest.backWith(f, host, writes);
        live.guest.unmark(f);
        return agrees();
    }

    public int protect(int f) {
        if (!isFrame(f)) {
            return refuse(NO_SUCH);
        }
        if (!live.guest.isWritable(f)) {
            return refuse(NOT_SO);
        }
        keep();
        live.guest.makeReadOnly(f);
        return answer(live.pool.takeWrite(f));
    }

    public int clean(int f) {
        if (!isFrame(f)) {
            return refuse(NO_SUCH);
        }
        keep();
        int was = bit(live.guest.isMarked(f));
        live.guest.unmark(f);
        live.pool.takeWrite(f);
        return answer(was);
    }

    public boolean undo() {
        if (kept == 0) {
            return declines(NO_ACT);
        }
        live.scene.copyFrom(ring[newest & (UNDO_ROOM - 1)]);
        newest = (newest + UNDO_ROOM - 1) & (UNDO_ROOM - 1);
        kept--;
        return agrees();
    }

    public int image() {
        if (!ready) {
            return refuse(NO_SUCH);
        }
        if (pictured >= IMAGE_ROOM) {
            return refuse(NO_ROOM);
        }
        pictures[pictured].copyFrom(live.scene);
        pictured++;
        return answer(pictured - 1);
    }

    public boolean back(int image) {
        if (image < 0 || image >= pictured || image >= IMAGE_ROOM) {
            return declines(NO_SUCH);
        }
        live.scene.copyFrom(pictures[image]);
        kept = 0;
        return agrees();
    }

    // ---- what is told

    public int led(int i) throws NoSuchElementException {
        int n = ready ? live.pool.freeAt(i) : NONE;
        if (n < 0) {
            throw new NoSuchElementException("no such free shadow table");
        }
        return n;
    }

    public int size(int what) {
        if (what < 0 || what > 11) {
            return NONE;
        }
        if (what == 11) {
            return text.taped;
        }
        if (!ready) {
            return 0;
        }
        switch (what) {
            case 0: return told.pool;
            case 1: return live.guest.countBacked();
            case 2: return told.wordLines;
            case 3: return told.steps;
            case 4: return told.doubts;
            case 5: return told.sights;
            case 6: return live.faults;
            case 7: return live.traps;
            case 8: return live.drops;
            case 9: return kept;
            default: return pictured;
        }
    }

    public int trouble() {
        return refusal;
    }

    // ---- what the calls above share

    private int refuse(int number) {
        refusal = number;
        return NONE;
    }

    private int answer(int value) {
        refusal = 0;
        return value;
    }

    private boolean declines(int number) {
        refusal = number;
        return false;
    }

    private boolean agrees() {
        refusal = 0;
        return true;
    }

    private void begin() {
        ready = true;
        live.startAnew(told.start, told.pool);
        kept = 0;
        pictured = 0;
    }

    /** The scene as it is goes ahead of an act, so that the act can be undone. */
    private void keep() {
        newest = (newest + 1) & (UNDO_ROOM - 1);
        ring[newest].copyFrom(live.scene);
        if (kept < UNDO_ROOM) {
            kept++;
        }
    }

    private boolean isFrame(int f) {
        return ready && f >= 0 && f < FRAMES;
    }

    private boolean isPage(int v) {
        return ready && v >= 0 && v < PAGES;
    }

    private boolean isTable(int n) {
        return ready && n >= 0 && n < told.pool;
    }

    private static boolean isPlace(int i) {
        return i >= 0 && i < PLACES;
    }

    private static boolean isWord(int value) {
        return value >= 0 && value <= HIGHEST_WORD;
    }

    private boolean mayRun(int pool) {
        if (!ready) {
            return declines(NO_SUCH);
        }
        if (pool < LEAST_POOL || pool > MOST_POOL) {
            return declines(BAD_NUMBER);
        }
        return agrees();
    }

    private boolean mayDraw(int seed, int n) {
        if (!ready) {
            return declines(NO_SUCH);
        }
        if (seed < 0 || seed > HIGHEST_SEED || n < 0 || n > MOST_DRAWN) {
            return declines(BAD_NUMBER);
        }
        return agrees();
    }

    private void runTold(int pool) {
        trial.startAnew(told.start, pool);
        for (int i = 0; i < told.steps && i < MOST_RUNS; i++) {
            trial.reach(told.stepWays[i] / MODES, told.stepWays[i] % MODES);
        }
    }

    private void runDrawn(int seed, int n) {
        trial.startFrom(live.scene);
        int drawn = seed;
        for (int i = 0; i < n; i++) {
            drawn = nextSeed(drawn);
            int page = drawn % PAGES;
            drawn = nextSeed(drawn);
            trial.reach(page, drawn % MODES);
        }
    }

    private int fitting() {
        return told.fittingSets(trial.guest);
    }

    private static int nextSeed(int seed) {
        return (75 * seed + 74) % 65537;
    }

    private static int divisor(int a, int b) {
        int large = a;
        int small = b;
        // Euclid's steps on ints are fewer than 50
        for (int i = 0; i < 64 && small != 0; i++) {
            int rest = large % small;
            large = small;
            small = rest;
        }
        return large;
    }

    private static int bit(boolean so) {
        return so ? 1 : 0;
    }

    private static int mode(boolean write, boolean user) {
        return (write ? TO_WRITE : 0) + (user ? AS_USER : 0);
    }

    private static boolean has(int word, int bits) {
        return (word & bits) == bits;
    }

    private static int frameIn(int word) {
        return (word >> 8) & (FRAMES - 1);
    }

    /** The guest's frames of words, its root, and what the host backs the frames with. */
    static final class Guest {
        final int[] words = new int[FRAMES * PLACES];
        final int[] hosts = new int[FRAMES];
        int writable;
        int marked;
        int top;

        void empty() {
            for (int i = 0; i < FRAMES * PLACES; i++) {
                words[i] = 0;
            }
            for (int f = 0; f < FRAMES; f++) {
                hosts[f] = NOTHING;
            }
            writable = 0;
            marked = 0;
            top = 0;
        }

        void copyFrom(Guest other) {
            System.arraycopy(other.words, 0, words, 0, FRAMES * PLACES);
            System.arraycopy(other.hosts, 0, hosts, 0, FRAMES);
            writable = other.writable;
            marked = other.marked;
            top = other.top;
        }

        /** The masks keep every index inside the row, whatever is asked. */
        static int spot(int f, int i) {
            return (f & (FRAMES - 1)) * PLACES + (i & (PLACES - 1));
        }

        int wordAt(int f, int i) {
            return words[(f & (FRAMES - 1)) * PLACES + (i & (PLACES - 1))];
        }

        void setWord(int f, int i, int word) {
            words[spot(f, i)] = word;
        }

        int hostOf(int f) {
            return hosts[f & (FRAMES - 1)];
        }

        boolean isBacked(int f) {
            return hosts[f & (FRAMES - 1)] >= 0;
        }

        boolean isWritable(int f) {
            return isBacked(f) && has(writable, 1 << f);
        }

        boolean isMarked(int f) {
            return has(marked, 1 << f);
        }

        boolean isTaken(int host) {
            for (int f = 0; f < FRAMES; f++) {
                if (hosts[f] == host) {
                    return true;
                }
            }
            return false;
        }

        int countBacked() {
            int count = 0;
            for (int f = 0; f < FRAMES; f++) {
                count += bit(isBacked(f));
            }
            return count;
        }

        void backWith(int f, int host, boolean writes) {
            hosts[f & (FRAMES - 1)] = host;
            writable = writes ? writable | 1 << f : writable & ~(1 << f);
        }

        void takeAway(int f) {
            hosts[f & (FRAMES - 1)] = NOTHING;
        }

        void makeReadOnly(int f) {
            writable &= ~(1 << f);
        }

        void setMark(int f) {
            marked |= 1 << f;
        }

        void unmark(int f) {
            marked &= ~(1 << f);
        }

        int placesWith(int f, int bits) {
            int places = 0;
            for (int i = 0; i < PLACES; i++) {
                if (has(wordAt(f, i), bits)) {
                    places |= 1 << i;
                }
            }
            return places;
        }

        int upperWord(int v) {
            return wordAt(top, v / PLACES);
        }

        /** The word that tells the page's frame: a large page has the root's alone. */
        int lastWord(int v) {
            int upper = wordAt(top, v / PLACES);
            return has(upper, LARGE) ? upper : wordAt(frameIn(upper), v);
        }

        /** Where a page leads by its words, be they present or not. */
        int frameTold(int v) {
            int upper = wordAt(top, v / PLACES);
            if (has(upper, LARGE)) {
                return firstOfLarge(upper) + v % PLACES;
            }
            return frameIn(wordAt(frameIn(upper), v));
        }

        /** The eight frames of a large page begin at 0, or at 8: the highest bit of its frame. */
        static int firstOfLarge(int word) {
            return (word >> 8) & PLACES;
        }

        int frameBehind(int v) {
            if (has(upperWord(v), PRESENT) && has(lastWord(v), PRESENT)) {
                return frameTold(v);
            }
            return ABSENT;
        }

        int seek(int v, int mode) {
            int upper = upperWord(v);
            int bar = barOf(upper, mode);
            if (bar == 0 && !has(upper, LARGE)) {
                bar = barOf(lastWord(v), mode);
            }
            if (bar != 0) {
                return bar;
            }
            int f = frameTold(v);
            if (!isBacked(f)) {
                return GONE;
            }
            if (has(mode, TO_WRITE) && !isWritable(f)) {
                return DENIED;
            }
            return hostOf(f);
        }

        private static int barOf(int word, int mode) {
            if (!has(word, PRESENT)) {
                return ABSENT;
            }
            if (has(mode, TO_WRITE) && !has(word, WRITE)) {
                return DENIED;
            }
            if (has(mode, AS_USER) && !has(word, USER)) {
                return DENIED;
            }
            return 0;
        }

        int modesDone(int v) {
            int modes = 0;
            for (int mode = 0; mode < MODES; mode++) {
                if (seek(v, mode) >= 0) {
                    modes |= 1 << mode;
                }
            }
            return modes;
        }

        int pagesTo(int f) {
            int count = 0;
            for (int v = 0; v < PAGES; v++) {
                count += bit(frameBehind(v) == f);
            }
            return count;
        }

        int tableFrames() {
            int frames = 0;
            for (int i = 0; i < PLACES; i++) {
                int upper = wordAt(top, i);
                if (has(upper, PRESENT) && !has(upper, LARGE)) {
                    frames |= 1 << frameIn(upper);
                }
            }
            return frames;
        }

        /** Seen and dirty bits are told to the guest, the host's own mark is set. */
        void noteUse(int v, int mode) {
            int i = v / PLACES;
            int upper = wordAt(top, i);
            boolean large = has(upper, LARGE);
            boolean writing = has(mode, TO_WRITE);
            setWord(top, i, upper | SEEN | (large && writing ? DIRTY : 0));
            if (!large) {
                int leaf = frameIn(upper);
                setWord(leaf, v, wordAt(leaf, v) | SEEN | (writing ? DIRTY : 0));
            }
            if (writing) {
                setMark(frameTold(v));
            }
        }
    }

    /** The shadow tables. An entry is what it tells times 4, with its W and U, or NOTHING. */
    static final class Pool {
        final int[] kinds = new int[MOST_POOL];
        final int[] owners = new int[MOST_POOL];
        final int[] births = new int[MOST_POOL];
        final int[] entries = new int[MOST_POOL * PLACES];
        int astray;
        int room;
        int clock;

        void startWith(int tables) {
            room = tables;
            clock = 0;
            for (int n = 0; n < MOST_POOL; n++) {
                vacate(n);
            }
        }

        void copyFrom(Pool other) {
            System.arraycopy(other.kinds, 0, kinds, 0, MOST_POOL);
            System.arraycopy(other.owners, 0, owners, 0, MOST_POOL);
            System.arraycopy(other.births, 0, births, 0, MOST_POOL);
            System.arraycopy(other.entries, 0, entries, 0, MOST_POOL * PLACES);
            astray = other.astray;
            room = other.room;
            clock = other.clock;
        }

        int kindOf(int n) {
            return kinds[n & (MOST_POOL - 1)];
        }

        int ownerOf(int n) {
            return owners[n & (MOST_POOL - 1)];
        }

        boolean isAstray(int n) {
            return has(astray, 1 << n);
        }

        /** The masks keep every index inside the row, whatever is asked. */
        private static int spot(int n, int i) {
            return (n & (MOST_POOL - 1)) * PLACES + (i & (PLACES - 1));
        }

        int entryAt(int n, int i) {
            return entries[(n & (MOST_POOL - 1)) * PLACES + (i & (PLACES - 1))];
        }

        void tell(int n, int i, int what, boolean write, boolean user) {
            entries[spot(n, i)] = what * 4 + (write ? MAY_WRITE : 0) + (user ? MAY_USER : 0);
        }

        void allowWrite(int n, int i) {
            int spot = spot(n, i);
            if (entries[spot] >= 0) {
                entries[spot] |= MAY_WRITE;
            }
        }

        /** How many entries went: 1, or 0 where there was none. */
        int remove(int n, int i) {
            int spot = spot(n, i);
            int was = bit(entries[spot] >= 0);
            entries[spot] = NOTHING;
            return was;
        }

        private void vacate(int n) {
            kinds[n & (MOST_POOL - 1)] = FREE;
            owners[n & (MOST_POOL - 1)] = NOTHING;
            births[n & (MOST_POOL - 1)] = 0;
            astray &= ~(1 << n);
            for (int at = 0; at < MOST_POOL * PLACES; at++) {
                if (at / PLACES == n) {
                    entries[at] = NOTHING;
                }
            }
        }

        int find(int kind, int owner) {
            for (int n = 0; n < MOST_POOL; n++) {
                if (kinds[n] == kind && owners[n] == owner) {
                    return n;
                }
            }
            return NOTHING;
        }

        boolean watches(int f) {
            int leaf = find(LEAF, f);
            return find(ROOT, f) >= 0 || leaf >= 0 && !isAstray(leaf);
        }

        int freeAt(int i) {
            int left = i;
            for (int n = 0; n < room && n < MOST_POOL; n++) {
                if (kinds[n] == FREE) {
                    if (left == 0) {
                        return n;
                    }
                    left--;
                }
            }
            return NOTHING;
        }

        /** The table made longest ago; the root of the frame top is spared. */
        int oldestBeside(int top) {
            int oldest = NOTHING;
            for (int n = 0; n < MOST_POOL; n++) {
                boolean spared = kinds[n] == FREE || kinds[n] == ROOT && owners[n] == top;
                if (!spared && (oldest < 0 || births[n] < births[oldest])) {
                    oldest = n;
                }
            }
            return oldest;
        }

        void drop(int gone) {
            for (int at = 0; at < MOST_POOL * PLACES; at++) {
                if (isRootEntry(at, gone)) {
                    entries[at] = NOTHING;
                }
            }
            vacate(gone);
        }

        /** Takes a table that is free. */
        void make(int n, int kind, int owner) {
            clock++;
            kinds[n & (MOST_POOL - 1)] = kind;
            owners[n & (MOST_POOL - 1)] = owner;
            births[n & (MOST_POOL - 1)] = clock;
        }

        // in both of these: NOTHING by 4, the lower whole, is -1, which is no table and no frame

        private boolean isRootEntry(int at, int table) {
            return kinds[(at / PLACES) & (MOST_POOL - 1)] == ROOT
                    && entries[at & (MOST_POOL * PLACES - 1)] >> 2 == table;
        }

        private boolean isMap(int at, int f) {
            int kind = kinds[(at / PLACES) & (MOST_POOL - 1)];
            return (kind == LEAF || kind == BROKEN) && entries[at & (MOST_POOL * PLACES - 1)] >> 2 == f;
        }

        int countMaps(int f, int bits) {
            int count = 0;
            for (int at = 0; at < MOST_POOL * PLACES; at++) {
                count += bit(isMap(at, f) && has(entries[at], bits));
            }
            return count;
        }

        int removeMaps(int f) {
            int count = 0;
            for (int at = 0; at < MOST_POOL * PLACES; at++) {
                if (isMap(at, f)) {
                    entries[at] = NOTHING;
                    count++;
                }
            }
            return count;
        }

        int takeWrite(int f) {
            int count = 0;
            for (int at = 0; at < MOST_POOL * PLACES; at++) {
                if (isMap(at, f) && has(entries[at], MAY_WRITE)) {
                    entries[at] &= ~MAY_WRITE;
                    count++;
                }
            }
            return count;
        }

        /** A page's entry in the root of the frame top, or NOTHING. */
        int upperEntry(int top, int v) {
            int root = find(ROOT, top);
            return root >= 0 ? entryAt(root, v / PLACES) : NOTHING;
        }

        /** The last entry by which the hardware hits, or NOTHING. */
        int hitEntry(int top, int v, int mode) {
            int upper = upperEntry(top, v);
            int lower = upper >= 0 ? entryAt(upper / 4, v) : NOTHING;
            if (lower < 0) {
                return NOTHING;
            }
            int need = (has(mode, TO_WRITE) ? MAY_WRITE : 0) + (has(mode, AS_USER) ? MAY_USER : 0);
            return has(upper & lower, need) ? lower : NOTHING;
        }

        /** What a trapped store at a place of a frame does to the tables of it. */
        void loosen(int f, int i) {
            int root = find(ROOT, f);
            if (root >= 0) {
                remove(root, i);
            }
            int leaf = find(LEAF, f);
            if (leaf >= 0) {
                astray |= 1 << leaf;
            }
        }

        /** What a device's write at a place of a frame does to the tables of it. */
        int forgetPlace(int f, int i) {
            int count = 0;
            int root = find(ROOT, f);
            if (root >= 0) {
                count += remove(root, i);
            }
            int leaf = find(LEAF, f);
            if (leaf >= 0 && !isAstray(leaf)) {
                count += remove(leaf, i);
            }
            return count;
        }

        int property(int n, int what) {
            switch (what) {
                case 0: return kindOf(n);
                case 1: return ownerOf(n);
                case 2: return bit(isAstray(n));
                case 3: return entriesThere(n);
                case 4: return madeAhead(n);
                default: return toldByRoots(n);
            }
        }

        private int entriesThere(int n) {
            int places = 0;
            for (int i = 0; i < PLACES; i++) {
                if (entryAt(n, i) >= 0) {
                    places |= 1 << i;
                }
            }
            return places;
        }

        private int madeAhead(int n) {
            int birth = births[n & (MOST_POOL - 1)];
            int count = 0;
            for (int other = 0; other < MOST_POOL; other++) {
                count += bit(kinds[other] != FREE && births[other] < birth);
            }
            return count;
        }

        private int toldByRoots(int n) {
            int count = 0;
            for (int at = 0; at < MOST_POOL * PLACES; at++) {
                count += bit(isRootEntry(at, n));
            }
            return count;
        }
    }

    /** All that an undoing or an image brings back. */
    static final class Scene {
        final Guest guest = new Guest();
        final Pool pool = new Pool();

        void copyFrom(Scene other) {
            guest.copyFrom(other.guest);
            pool.copyFrom(other.pool);
        }
    }

    /** A scene in motion, with counts that no undoing takes back. */
    static final class Pager {
        final Scene scene = new Scene();
        final Guest guest = scene.guest;
        final Pool pool = scene.pool;
        int hitCount;
        int faults;
        int undone;
        int traps;
        int drops;

        void startAnew(Guest first, int tables) {
            guest.copyFrom(first);
            pool.startWith(tables);
            clearCounts();
        }

        void startFrom(Scene other) {
            scene.copyFrom(other);
            clearCounts();
        }

        private void clearCounts() {
            hitCount = 0;
            faults = 0;
            undone = 0;
            traps = 0;
            drops = 0;
        }

        int hostByHardware(int v, int mode) {
            int hit = pool.hitEntry(guest.top, v, mode);
            return hit >= 0 ? guest.hostOf(hit / 4) : NOTHING;
        }

        int reach(int v, int mode) {
            int host = hostByHardware(v, mode);
            if (host >= 0) {
                hitCount++;
                return host;
            }
            faults++;
            int found = guest.seek(v, mode);
            if (found < 0) {
                undone++;
                return found;
            }
            fill(v, mode);
            return found;
        }

        private void fill(int v, int mode) {
            guest.noteUse(v, mode);
            int upper = guest.upperWord(v);
            boolean large = has(upper, LARGE);
            int root = tableOf(ROOT, guest.top);
            int lower = large ? tableOf(BROKEN, Guest.firstOfLarge(upper)) : tableOf(LEAF, frameIn(upper));
            pool.tell(root, v / PLACES, lower, has(upper, WRITE) && (!large || has(upper, DIRTY)), has(upper, USER));
            int last = guest.lastWord(v);
            int f = guest.frameTold(v);
            boolean writable = (large || has(last, WRITE | DIRTY))
                    && guest.isWritable(f) && guest.isMarked(f) && !pool.watches(f);
            pool.tell(lower, v, f, writable, large || has(last, USER));
        }

        private int tableOf(int kind, int owner) {
            int there = pool.find(kind, owner);
            if (there >= 0) {
                return there;
            }
            int n = pool.freeAt(0);
            if (n < 0) {
                n = pool.oldestBeside(guest.top);
                pool.drop(n);
                drops++;
            }
            pool.make(n, kind, owner);
            // a broken table is of no guest frame that could be watched
            if (kind != BROKEN) {
                pool.takeWrite(owner);
            }
            return n;
        }

        int put(int v, int i, int value, int mode) {
            int hit = pool.hitEntry(guest.top, v, mode);
            int host = reach(v, mode);
            if (host < 0) {
                return host;
            }
            if (hit >= 0) {
                guest.setWord(hit / 4, i, value);
            } else {
                putBehindFault(v, i, value);
            }
            return host;
        }

        private void putBehindFault(int v, int i, int value) {
            // the store may write the very words that lead here: they are read ahead of it
            int f = guest.frameTold(v);
            guest.setWord(f, i, value);
            if (!pool.watches(f)) {
                return;
            }
            traps++;
            int upper = pool.upperEntry(guest.top, v);
            pool.loosen(f, i);
            if (upper >= 0 && !pool.watches(f)) {
                pool.allowWrite(upper / 4, v);
            }
        }

        int takeRoot(int f) {
            guest.top = f;
            int count = Integer.bitCount(pool.astray);
            for (int n = 0; n < MOST_POOL; n++) {
                if (pool.isAstray(n)) {
                    bringBack(n);
                }
            }
            pool.astray = 0;
            for (int frame = 0; frame < FRAMES; frame++) {
                if (pool.watches(frame)) {
                    pool.takeWrite(frame);
                }
            }
            return count;
        }

        private void bringBack(int leaf) {
            for (int i = 0; i < PLACES; i++) {
                int entry = pool.entryAt(leaf, i);
                int word = guest.wordAt(pool.ownerOf(leaf), i);
                if (entry < 0) {
                    continue;
                }
                if (!has(word, PRESENT) || frameIn(word) != entry / 4) {
                    pool.remove(leaf, i);
                } else {
                    boolean write = has(entry, MAY_WRITE) && has(word, WRITE | DIRTY);
                    boolean user = has(entry, MAY_USER) && has(word, USER);
                    pool.tell(leaf, i, entry / 4, write, user);
                }
            }
        }

        int forget(int v) {
            int upper = pool.upperEntry(guest.top, v);
            return upper >= 0 ? pool.remove(upper / 4, v) : 0;
        }

        int putPastWatching(int f, int i, int value) {
            guest.setWord(f, i, value);
            guest.setMark(f);
            return pool.forgetPlace(f, i);
        }

        private boolean isStale(int v, int mode) {
            int host = hostByHardware(v, mode);
            return host >= 0 && guest.seek(v, mode) != host;
        }

        int staleWays() {
            int count = 0;
            for (int way = 0; way < PAGES * MODES; way++) {
                count += bit(isStale(way / MODES, way % MODES));
            }
            return count;
        }

        int firstStalePage() {
            for (int way = 0; way < PAGES * MODES; way++) {
                if (isStale(way / MODES, way % MODES)) {
                    return way / MODES;
                }
            }
            return NOTHING;
        }

        int missingWays() {
            int count = 0;
            for (int way = 0; way < PAGES * MODES; way++) {
                int v = way / MODES;
                int mode = way % MODES;
                count += bit(guest.seek(v, mode) >= 0 && hostByHardware(v, mode) < 0);
            }
            return count;
        }
    }

    /** What a text told. A way is a page times 4, with its mode. */
    static final class Told {
        static final int MOST_HOSTS = 16;
        static final int MOST_WORDS = 24;
        static final int MOST_DOUBTS = 4;
        static final int MOST_SIGHTS = 6;

        final Guest start = new Guest();
        int pool;
        int hostLines;
        final boolean[] wordTold = new boolean[FRAMES * PLACES];
        int wordLines;
        final int[] stepWays = new int[MOST_RUNS];
        int steps;
        final int[] doubtSpots = new int[MOST_DOUBTS];
        final int[] doubtWords = new int[MOST_DOUBTS];
        int doubts;
        final int[] sightWays = new int[MOST_SIGHTS];
        final int[] sightHows = new int[MOST_SIGHTS];
        int sights;

        void empty() {
            start.empty();
            pool = 0;
            hostLines = 0;
            for (int i = 0; i < FRAMES * PLACES; i++) {
                wordTold[i] = false;
            }
            wordLines = 0;
            steps = 0;
            doubts = 0;
            sights = 0;
        }

        boolean toldWord(int f, int i) {
            return wordTold[Guest.spot(f, i)];
        }

        void addHost(int f, int host, boolean writes) {
            start.backWith(f, host, writes);
            hostLines++;
        }

        void addWord(int f, int i, int word) {
            start.setWord(f, i, word);
            wordTold[Guest.spot(f, i)] = true;
            wordLines++;
        }

        void addStep(int way) {
            if (steps < MOST_RUNS) {
                stepWays[steps] = way;
                steps++;
            }
        }

        boolean doubted(int f, int i) {
            for (int d = 0; d < doubts && d < MOST_DOUBTS; d++) {
                if (doubtSpots[d] == Guest.spot(f, i)) {
                    return true;
                }
            }
            return false;
        }

        void addDoubt(int f, int i, int word) {
            if (doubts < MOST_DOUBTS) {
                doubtSpots[doubts] = Guest.spot(f, i);
                doubtWords[doubts] = word;
                doubts++;
            }
        }

        boolean sighted(int way) {
            for (int s = 0; s < sights && s < MOST_SIGHTS; s++) {
                if (sightWays[s] == way) {
                    return true;
                }
            }
            return false;
        }

        void addSight(int way, int how) {
            if (sights < MOST_SIGHTS) {
                sightWays[sights] = way;
                sightHows[sights] = how;
                sights++;
            }
        }

        /** The first sight that a guest's tables don't bear out, or NOTHING. */
        int firstUntrue(Guest guest) {
            for (int s = 0; s < sights && s < MOST_SIGHTS; s++) {
                int found = guest.seek(sightWays[s] / MODES, sightWays[s] % MODES);
                int how = found >= 0 ? 0 : found;
                if (how != sightHows[s]) {
                    return s;
                }
            }
            return NOTHING;
        }

        /** Which sets of the doubted words bear out all sights, a bit a set. */
        int fittingSets(Guest scratch) {
            int fitting = 0;
            for (int set = 0; set < 1 << doubts && set < 1 << MOST_DOUBTS; set++) {
                scratch.copyFrom(start);
                for (int d = 0; d < doubts && d < MOST_DOUBTS; d++) {
                    if (has(set, 1 << d)) {
                        scratch.setWord(doubtSpots[d] / PLACES, doubtSpots[d] % PLACES, doubtWords[d]);
                    }
                }
                if (firstUntrue(scratch) < 0) {
                    fitting |= 1 << set;
                }
            }
            return fitting;
        }
    }

    /** What follows from the sets of doubted words that fit, a bit a set. */
    static final class Guesses {
        static final int SETS = 16;

        static int setAt(int fitting, int i) {
            int left = i;
            for (int set = 0; set < SETS; set++) {
                if (has(fitting, 1 << set)) {
                    if (left == 0) {
                        return set;
                    }
                    left--;
                }
            }
            return NONE;
        }

        static int inSome(int fitting) {
            int some = 0;
            for (int set = 0; set < SETS; set++) {
                if (has(fitting, 1 << set)) {
                    some |= set;
                }
            }
            return some;
        }

        static int inAll(int fitting) {
            int all = SETS - 1;
            for (int set = 0; set < SETS; set++) {
                if (has(fitting, 1 << set)) {
                    all &= set;
                }
            }
            return fitting == 0 ? 0 : all;
        }

        /** How many sets are left at most when one doubted word comes to be told. */
        static int leftAtMost(int fitting, int doubt) {
            int with = 0;
            for (int set = 0; set < SETS; set++) {
                with += bit(has(fitting, 1 << set) && has(set, 1 << doubt));
            }
            return Math.max(with, Integer.bitCount(fitting) - with);
        }

        static int bestToAsk(int fitting, int doubts) {
            int best = NOTHING;
            for (int d = 0; d < doubts && fitting != 0; d++) {
                if (best < 0 || leftAtMost(fitting, d) < leftAtMost(fitting, best)) {
                    best = d;
                }
            }
            return best;
        }
    }

    /** Reads a text into what it tells, or finds its first fault. */
    static final class Text {
        private static final int END = 0;
        private static final int NAME = 1;
        private static final int WHOLE = 2;
        private static final int PART = 3;
        private static final int ODD = 4;
        private static final int LONGEST_NAME = 8;
        private static final int LONGEST_WHOLE = 4;

        private static final int HOST_LINE = 1;
        private static final int WORD_LINE = 2;
        private static final int RUN_LINE = 3;
        private static final int UNSURE_LINE = 4;
        private static final int SAW_LINE = 5;

        private final byte[] tape = new byte[TAPE_ROOM];
        int taped;
        private int length;
        private int token;
        private int from;
        private int to;
        private int value;
        int badness;
        int badPlace;

        /** The four bytes of a number come behind the tape, the highest first. */
        void append(int four) {
            for (int shift = 24; shift >= 0; shift -= 8) {
                if (taped < TAPE_ROOM) {
                    tape[taped] = (byte) (four >> shift);
                    taped++;
                }
            }
        }

        boolean reads(int n, Told told) {
            length = n;
            taped = 0;
            badness = 0;
            badPlace = 0;
            to = 0;
            told.empty();
            advance();
            // a line has a byte at least
            for (int lines = 0; lines <= TAPE_ROOM; lines++) {
                if (!readsLine(told)) {
                    return false;
                }
                if (token == END) {
                    return true;
                }
                if (token != PART) {
                    return fails(FORM);
                }
                advance();
            }
            return fails(FORM);
        }

        private boolean fails(int number) {
            badness = number;
            badPlace = from;
            return false;
        }

        private int byteAt(int p) {
            return p >= 0 && p < length && p < TAPE_ROOM ? tape[p] & 255 : NONE;
        }

        private static boolean isSmall(int c) {
            return c >= 'a' && c <= 'z';
        }

        private static boolean isDigit(int c) {
            return c >= '0' && c <= '9';
        }

        private void advance() {
            from = to;
            while (from < length && byteAt(from) == ' ') {
                from++;
            }
            to = from;
            int c = byteAt(from);
            if (isSmall(c)) {
                while (to < length && isSmall(byteAt(to))) {
                    to++;
                }
                token = to - from <= LONGEST_NAME ? NAME : ODD;
            } else if (isDigit(c)) {
                value = 0;
                while (to < length && isDigit(byteAt(to))) {
                    value = value * 10 + byteAt(to) - '0';
                    to++;
                }
                token = to - from <= LONGEST_WHOLE ? WHOLE : ODD;
            } else if (c == NONE) {
                token = END;
            } else {
                token = c == ';' ? PART : ODD;
                to++;
            }
        }

        private boolean isName(String name) {
            if (token != NAME || to - from != name.length() || from < 0 || to > TAPE_ROOM) {
                return false;
            }
            for (int i = 0; i < name.length(); i++) {
                if (tape[from + i] != name.charAt(i)) {
                    return false;
                }
            }
            return true;
        }

        /** Stays at the token: the caller may find a fault of its own at it. */
        private boolean isWhole(int least, int most) {
            if (token != WHOLE) {
                return fails(FORM);
            }
            if (value < least || value > most) {
                return fails(BOUNDS);
            }
            return true;
        }

        private boolean readsLine(Told told) {
            if (isName("machine")) {
                return readsMachine(told);
            }
            int sort = lineSort();
            if (sort == 0) {
                return fails(FORM);
            }
            if (told.pool == 0) {
                return fails(LACKS);
            }
            if (isFull(told, sort)) {
                return fails(MANY);
            }
            advance();
            switch (sort) {
                case HOST_LINE: return readsHost(told);
                case WORD_LINE: return readsWord(told, true);
                case RUN_LINE: return readsRun(told);
                case UNSURE_LINE: return readsWord(told, false);
                default: return readsSaw(told);
            }
        }

        private int lineSort() {
            if (isName("host")) {
                return HOST_LINE;
            }
            if (isName("word")) {
                return WORD_LINE;
            }
            if (isName("run")) {
                return RUN_LINE;
            }
            if (isName("unsure")) {
                return UNSURE_LINE;
            }
            return isName("saw") ? SAW_LINE : 0;
        }

        private static boolean isFull(Told told, int sort) {
            switch (sort) {
                case HOST_LINE: return told.hostLines >= Told.MOST_HOSTS;
                case WORD_LINE: return told.wordLines >= Told.MOST_WORDS;
                case RUN_LINE: return told.steps >= MOST_RUNS;
                case UNSURE_LINE: return told.doubts >= Told.MOST_DOUBTS;
                default: return told.sights >= Told.MOST_SIGHTS;
            }
        }

        private boolean readsMachine(Told told) {
            if (told.pool != 0) {
                return fails(TWICE);
            }
            advance();
            if (!isName("pool")) {
                return fails(FORM);
            }
            advance();
            if (!isWhole(LEAST_POOL, MOST_POOL)) {
                return false;
            }
            told.pool = value;
            advance();
            if (!isName("root")) {
                return fails(FORM);
            }
            advance();
            if (!isWhole(0, FRAMES - 1)) {
                return false;
            }
            told.start.top = value;
            advance();
            return true;
        }

        private boolean readsHost(Told told) {
            if (!isWhole(0, FRAMES - 1)) {
                return false;
            }
            int f = value;
            if (told.start.isBacked(f)) {
                return fails(TWICE);
            }
            advance();
            if (!isWhole(0, HOST_FRAMES - 1)) {
                return false;
            }
            int host = value;
            if (told.start.isTaken(host)) {
                return fails(TWICE);
            }
            advance();
            boolean writes = isName("rw");
            if (!writes && !isName("ro")) {
                return fails(FORM);
            }
            told.addHost(f, host, writes);
            advance();
            return true;
        }

        /** A word that is told, or one of which nobody is sure: a frame, a place, what is there. */
        private boolean readsWord(Told told, boolean sure) {
            if (!isWhole(0, FRAMES - 1)) {
                return false;
            }
            int f = value;
            advance();
            if (!isWhole(0, PLACES - 1)) {
                return false;
            }
            int i = value;
            if (sure ? told.toldWord(f, i) : told.doubted(f, i)) {
                return fails(TWICE);
            }
            advance();
            if (!isWhole(0, HIGHEST_WORD)) {
                return false;
            }
            if (sure) {
                told.addWord(f, i, value);
            } else {
                told.addDoubt(f, i, value);
            }
            advance();
            return true;
        }

        /** Stays at the mode; the way goes into value. */
        private boolean isWay() {
            if (!isWhole(0, PAGES - 1)) {
                return false;
            }
            int v = value;
            advance();
            int mode = modeNamed();
            if (mode < 0) {
                return fails(FORM);
            }
            value = v * MODES + mode;
            return true;
        }

        private boolean readsRun(Told told) {
            if (!isWay()) {
                return false;
            }
            told.addStep(value);
            advance();
            return true;
        }

        private boolean readsSaw(Told told) {
            if (!isWay()) {
                return false;
            }
            int way = value;
            if (told.sighted(way)) {
                return fails(TWICE);
            }
            advance();
            int how = howNamed();
            if (how > 0) {
                return fails(FORM);
            }
            told.addSight(way, how);
            advance();
            return true;
        }

        private int modeNamed() {
            if (isName("r")) {
                return 0;
            }
            if (isName("w")) {
                return TO_WRITE;
            }
            if (isName("ur")) {
                return AS_USER;
            }
            return isName("uw") ? TO_WRITE + AS_USER : NONE;
        }

        /** What a look would tell, 0 for a page that is done, 1 for no such word. */
        private int howNamed() {
            if (isName("done")) {
                return 0;
            }
            if (isName("absent")) {
                return ABSENT;
            }
            if (isName("denied")) {
                return DENIED;
            }
            return isName("gone") ? GONE : 1;
        }
    }
}
