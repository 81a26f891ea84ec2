import java.util.NoSuchElementException;

/** Promises 1 and 6 to 58: the edges of what each call takes and answers, and how it is refused. */
public final class EdgesOfCallsTest {
    interface NumberCall {
        long on(ShadowPager x, int n);
    }

    private static final int MIN = Integer.MIN_VALUE;
    private static final int MAX = Integer.MAX_VALUE;
    private static final int[] NO_FRAMES = {-1, 16, 17, -16, MIN, MAX};
    private static final int[] NO_PAGES = {-1, 64, 65, -64, MIN, MAX};
    private static final int[] NO_PLACES = {-1, 8, 9, -8, MIN, MAX};
    private static final int[] NO_WORDS = {-1, 4096, 4097, MIN, MAX};
    private static final int[] NO_POOLS = {2, 9, 0, -3, MIN, MAX};

    private static final String SELF_ALL = "machine pool 3 root 0;host 1 1 rw;host 5 5 rw" + Texts.lines("word 0 # 263", 0, 8)
            + ";word 1 0 263" + Texts.lines("word 1 # 1287", 1, 8);

    private final Sentences s = new Sentences();
    private final Checks c = s.c;

    public static void main(String[] args) {
        EdgesOfCallsTest t = new EdgesOfCallsTest();
        t.newObject();
        t.guestAndHost();
        t.wordsWithBits();
        t.looks();
        t.leadsRightsAndLarge();
        t.aliasesAndTables();
        t.hardware();
        t.staleAndMissing();
        t.shadowAndEntry();
        t.mapsWritersWatched();
        t.outOfStepAndDropsNext();
        t.runs();
        t.poolFor();
        t.sweep();
        t.drawn();
        t.rate();
        t.fitting();
        t.asking();
        t.access();
        t.store();
        t.loadAndFlush();
        t.device();
        t.unmap();
        t.give();
        t.protectAndClean();
        t.undo();
        t.imageAndBack();
        t.led();
        t.size();
        t.trouble();
        t.lastCall();
        t.everyPromise();
        t.s.end();
    }

    // ---- objects

    /**
     * Three acts, an image, a tape: the root's table and the leaf of frame 1, out of step, and the broken one of 8;
     * frames 1 and 2 have their mark.
     */
    private static ShadowPager busy() {
        ShadowPager x = Checks.of(Texts.BASE);
        x.access(0, true, false);
        x.access(9, false, false);
        x.store(2, 0, 519, false);
        x.image();
        x.feed(1, 2, 3, 4, 5);
        return x;
    }

    private static ShadowPager none() {
        return new ShadowPager();
    }

    private static Sentences.Maker told(String text) {
        return () -> Checks.of(text);
    }

    // ---- what many promises say

    /** NONE: 1 without a MACHINE. */
    private void withoutMachine(String place, long due, Sentences.Call call) {
        s.says(place, "NONE: 1 (no MACHINE)", () -> s.refuses(EdgesOfCallsTest::none, 1, due, call));
    }

    /** NONE: 1 for numbers that aren't such, none for those that are. */
    private void bounds(String place, String what, int[] not, int most, NumberCall call) {
        s.says(place, "NONE: 1: " + what, () -> {
            for (int n : not) {
                s.refuses(EdgesOfCallsTest::busy, 1, -1, x -> call.on(x, n));
            }
        });
        s.says(place, what + ": from 0 on, up to " + most, () -> {
            for (int n = 0; n <= most; n++) {
                ShadowPager x = busy();
                x.machine(1000);
                call.on(x, n);
                c.due("trouble() by " + n, true, x.trouble() != 1 && x.trouble() != 2);
            }
        });
        withoutMachine(place, -1, x -> call.on(x, 0));
    }

    private void frames(String place, NumberCall call) {
        bounds(place, "no such FRAME", NO_FRAMES, 15, call);
    }

    private void pages(String place, NumberCall call) {
        bounds(place, "no such PAGE", NO_PAGES, 63, call);
    }

    private void places(String place, NumberCall call) {
        bounds(place, "no such place", NO_PLACES, 7, call);
    }

    // ---- promise 1

    private void newObject() {
        s.says("1", "No MACHINE", () -> {
            ShadowPager x = none();
            c.due("trouble", 0, x.trouble());
            c.due("fault", 0, x.fault());
            c.due("where", -1, x.where());
            for (int what = 0; what <= 11; what++) {
                c.due("size " + what, 0, x.size(what));
            }
            s.refuses(EdgesOfCallsTest::none, 1, -1, y -> y.root());
        });
        s.says("1", "NONE = -1", () -> c.due("NONE", -1, ShadowPager.NONE));
        s.says("1", "one object is nothing to another", () -> {
            ShadowPager x = busy();
            ShadowPager y = none();
            c.due("size", 0, y.size(0));
            c.due("tape", 20, y.feed(0, 0, 0, 0, 0));
            c.due("of the first", 20, x.size(11));
            c.due("trouble", 0, y.trouble());
        });
    }

    // ---- promises 6 to 10

    private void guestAndHost() {
        frames("6", (x, n) -> x.word(n, 0));
        places("6", (x, n) -> x.word(0, n));
        s.says("6", "A WORD NOW", () -> {
            s.asks(told(Texts.BASE), 519, x -> x.word(1, 0));
            s.asks(EdgesOfCallsTest::busy, 287, x -> x.word(1, 2));
            s.asks(told(Texts.PLAIN + ";word 15 7 4095;word 0 0 1"), 4095, x -> x.word(15, 7));
            s.asks(told(Texts.PLAIN + ";word 15 7 4095;word 0 0 1"), 1, x -> x.word(0, 0));
        });
        frames("7", (x, n) -> x.backing(n));
        s.says("7", "The host frame that backs a FRAME", () -> {
            Sentences.Maker two = told(Texts.PLAIN + ";host 0 31 ro;host 15 0 rw");
            s.asks(two, 31, x -> x.backing(0));
            s.asks(two, 0, x -> x.backing(15));
        });
        s.says("7", "-2 none", () -> s.asks(EdgesOfCallsTest::busy, -2, x -> x.backing(0)));
        frames("8", (x, n) -> x.writes(n));
        s.says("8", "1 if it is rw", () -> s.asks(EdgesOfCallsTest::busy, 1, x -> x.writes(2)));
        s.says("8", "0 if it is ro", () -> s.asks(EdgesOfCallsTest::busy, 0, x -> x.writes(3)));
        s.says("8", "0 if it is not backed", () -> {
            s.asks(EdgesOfCallsTest::busy, 0, x -> x.writes(15));
            ShadowPager y = busy();
            y.unmap(2);
            s.does(y, 0, x -> x.writes(2));
        });
        withoutMachine("9", -1, x -> x.root());
        s.says("9", "The root FRAME: 0, 15", () -> {
            s.asks(told("machine pool 3 root 0"), 0, x -> x.root());
            s.asks(told("machine pool 3 root 15"), 15, x -> x.root());
        });
        withoutMachine("10", -1, x -> x.marks());
        s.says("10", "FRAMES whose MARK is set, as bits: none, all", () -> {
            s.asks(told(Texts.BASE), 0, x -> x.marks());
            s.asks(EdgesOfCallsTest::busy, 6, x -> x.marks());
            ShadowPager y = Checks.of(Texts.PLAIN + Texts.lines("host # # ro", 0, 16));
            for (int f = 0; f < 16; f++) {
                y.device(f, 0, 0);
                c.due("marks", (2 << f) - 1, y.marks());
            }
        });
    }

    // ---- promise 11

    private void wordsWithBits() {
        frames("11", (x, n) -> x.wordsWith(n, 1));
        Sentences.Maker words = told(Texts.PLAIN + Texts.lines("word 15 # 63", 0, 7) + ";word 15 7 4000;word 3 0 192;word 3 1 256;word 3 7 62");
        s.says("11", "with all these bits (1 .. 63)", () -> {
            for (int bits = 1; bits <= 63; bits++) {
                int these = bits;
                s.asks(words, 127 + (bits == 32 ? 128 : 0), x -> x.wordsWith(15, these));
            }
        });
        s.says("11", "NONE: 2", () -> {
            for (int bits : new int[] {0, 64, -1, 128, 256, MIN, MAX}) {
                s.refuses(words, 2, -1, x -> x.wordsWith(15, bits));
            }
        });
        s.says("11", "as bits of places: none, the first, the last, all", () -> {
            s.asks(words, 0, x -> x.wordsWith(0, 1));
            s.asks(words, 0, x -> x.wordsWith(3, 1));
            s.asks(words, 128, x -> x.wordsWith(3, 62));
            s.asks(words, 255, x -> x.wordsWith(15, 32));
            s.asks(told(Texts.PLAIN + ";word 0 0 1"), 1, x -> x.wordsWith(0, 1));
        });
        s.says("11", "NONE: 1, ahead of 2", () -> {
            s.refuses(words, 1, -1, x -> x.wordsWith(16, 0));
            s.refuses(EdgesOfCallsTest::none, 1, -1, x -> x.wordsWith(0, 64));
        });
    }

    // ---- promises 12 to 17

    private void looks() {
        pages("12", (x, n) -> x.look(n, false, false));
        pages("12", (x, n) -> x.look(n, true, true));
        s.says("12", "LOOK: a host frame, 0 and 31, too, ABSENT, DENIED, GONE aren't refusals", () -> {
            Sentences.Maker two = told(Texts.PLAIN + ";host 5 0 rw;host 6 31 ro;word 0 0 263;word 1 0 1287;word 1 1 1543;word 1 2 1799");
            s.asks(two, 0, x -> x.look(0, true, true));
            s.asks(two, 31, x -> x.look(1, false, true));
            s.asks(two, -3, x -> x.look(1, true, true));
            s.asks(two, -4, x -> x.look(2, false, false));
            s.asks(two, -2, x -> x.look(63, false, false));
        });
    }

    private void leadsRightsAndLarge() {
        pages("13", (x, n) -> x.leads(n));
        s.says("13", "The FRAME a PAGE leads to, rights no matter: 0, 15, backed or not", () -> {
            Sentences.Maker two = told(Texts.PLAIN + ";word 0 7 257;word 1 0 1;word 1 7 3841;word 0 0 33;word 0 1 2081");
            s.asks(two, 0, x -> x.leads(56));
            s.asks(two, 15, x -> x.leads(63));
            s.asks(two, 0, x -> x.leads(0));
            s.asks(two, 15, x -> x.leads(15));
        });
        s.says("13", "-2 ABSENT: by the one WORD, by the other", () -> {
            s.asks(told(Texts.PLAIN + ";word 0 0 256;word 1 0 1287"), -2, x -> x.leads(0));
            s.asks(told(Texts.PLAIN + ";word 0 0 257;word 1 0 1286"), -2, x -> x.leads(0));
            s.asks(told(Texts.PLAIN + ";word 0 0 32"), -2, x -> x.leads(0));
        });
        pages("14", (x, n) -> x.rights(n));
        s.says("14", "Rights by LOOK: 1 to read, 2 to write, 4 to read as user, 8 to write as user", () -> {
            Sentences.Maker six = told(Texts.PLAIN + ";host 5 5 rw;host 6 6 ro;word 0 0 263;word 1 0 1281;word 1 1 1283;word 1 2 1285;"
                    + "word 1 3 1287;word 1 4 1543;word 1 5 1799");
            int[] due = {1, 3, 5, 15, 5, 0, 0, 0};
            for (int v = 0; v < 8; v++) {
                int page = v;
                s.asks(six, due[v], x -> x.rights(page));
            }
        });
        pages("15", (x, n) -> x.large(n));
        s.says("15", "1 if a PAGE is by a LARGE WORD, else 0", () -> {
            s.asks(told(Texts.PLAIN + ";word 0 7 33"), 1, x -> x.large(63));
            s.asks(told(Texts.PLAIN + ";word 0 7 33"), 1, x -> x.large(56));
            s.asks(told(Texts.PLAIN + ";word 0 7 257;word 1 7 33"), 0, x -> x.large(63));
        });
        s.says("15", "-2 the root's WORD isn't PRESENT", () -> {
            s.asks(told(Texts.PLAIN + ";word 0 7 33"), -2, x -> x.large(55));
            s.asks(told(Texts.PLAIN + ";word 0 7 62"), -2, x -> x.large(63));
        });
    }

    private void aliasesAndTables() {
        frames("16", (x, n) -> x.aliases(n));
        s.says("16", "How many PAGES lead to a FRAME: none, all 64", () -> {
            s.asks(told(Texts.ALL), 64, x -> x.aliases(5));
            s.asks(told(Texts.ALL), 0, x -> x.aliases(0));
            s.asks(told(Texts.ALL), 0, x -> x.aliases(1));
            s.asks(told(Texts.PLAIN), 0, x -> x.aliases(0));
        });
        s.says("16", "rights no matter, backed or not", () -> {
            s.asks(told(Texts.PLAIN + ";word 0 0 257;word 1 0 3841;word 1 1 3840;word 0 3 2081"), 2, x -> x.aliases(15));
        });
        withoutMachine("17", -1, x -> x.tables());
        s.says("17", "FRAMES that the root's WORDS, PRESENT, not LARGE, tell, as bits: none, the first, the last, eight", () -> {
            s.asks(told(Texts.PLAIN), 0, x -> x.tables());
            s.asks(told(Texts.PLAIN + ";word 0 3 1"), 1, x -> x.tables());
            s.asks(told(Texts.PLAIN + ";word 0 3 3841;word 0 4 3841;word 1 0 257"), 1 << 15, x -> x.tables());
            s.asks(told(Texts.PLAIN + ";word 0 3 62;word 0 4 545;word 0 0 784"), 0, x -> x.tables());
            s.asks(told(Texts.PLAIN + ";word 0 0 1;word 0 1 257;word 0 2 513;word 0 3 769;word 0 4 1025;word 0 5 1281;word 0 6 1537;word 0 7 1793"),
                255, x -> x.tables());
        });
        s.says("17", "the root's WORDS: of the root FRAME now", () -> {
            ShadowPager y = Checks.of(Texts.PLAIN + ";word 0 0 257;word 3 0 513");
            y.load(3);
            s.does(y, 4, x -> x.tables());
        });
    }

    // ---- promises 18 to 21

    private void hardware() {
        pages("18", (x, n) -> x.hits(n, false, false));
        pages("18", (x, n) -> x.hits(n, true, true));
        s.says("18", "the host frame: 0, 31", () -> {
            s.asks(EdgesOfCallsTest::allThere, 0, x -> x.hits(63, true, true));
            ShadowPager y = Checks.of(Texts.PLAIN + ";host 0 31 rw;word 0 0 39");
            y.access(0, false, false);
            s.does(y, 31, x -> x.hits(0, false, true));
        });
        s.says("18", "-2 it doesn't HIT", () -> {
            s.asks(told(Texts.BASE), -2, x -> x.hits(0, false, false));
            s.asks(EdgesOfCallsTest::busy, -2, x -> x.hits(9, true, false));
            s.asks(EdgesOfCallsTest::busy, -2, x -> x.hits(9, false, true));
            s.asks(EdgesOfCallsTest::busy, 13, x -> x.hits(9, false, false));
        });
    }

    /** All 64 pages hit in each mode. */
    private static ShadowPager allThere() {
        ShadowPager x = Checks.of(Texts.ALL);
        x.access(0, true, true);
        for (int i = 1; i < 8; i++) {
            x.access(8 * i, true, true);
            x.access(i, true, true);
        }
        return x;
    }

    /** All 64 pages hit in each mode, and none is present: the leaf of frame 1 is out of step. */
    private ShadowPager allStale() {
        ShadowPager x = Checks.of(SELF_ALL);
        for (int i = 0; i < 8; i++) {
            x.access(8 * i, false, true);
        }
        for (int i = 1; i < 8; i++) {
            x.access(i, true, true);
        }
        c.due("a trap", 1, x.store(0, 0, 0, true));
        for (int i = 1; i < 8; i++) {
            c.due("stale", 32 * i, x.stale());
            c.due("a hit", 1, x.store(0, i, 0, true));
        }
        return x;
    }

    private void staleAndMissing() {
        withoutMachine("19", -1, x -> x.stale());
        withoutMachine("20", -1, x -> x.staleAt());
        withoutMachine("21", -1, x -> x.missing());
        s.says("19", "STALE: how many: none, all 256", () -> {
            s.asks(told(Texts.ALL), 0, x -> x.stale());
            s.asks(EdgesOfCallsTest::allThere, 0, x -> x.stale());
            s.does(allStale(), 256, x -> x.stale());
        });
        s.says("20", "The first PAGE that is STALE with some MODE: the first of all, the last", () -> {
            ShadowPager x = allStale();
            s.does(x, 0, y -> y.staleAt());
            for (int v = 0; v < 7; v++) {
                x.flush(v);
                s.does(x, v + 1, y -> y.staleAt());
            }
            x.flush(7);
            s.does(x, -2, y -> y.staleAt());
        });
        s.says("20", "page 63 alone, and by one mode alone", () -> {
            ShadowPager x = Checks.of(Texts.PLAIN + ";host 1 1 rw;host 5 5 rw;word 0 7 263;word 1 0 263;word 1 7 1285");
            x.access(63, false, true);
            x.store(56, 7, 1281, false);
            s.does(x, 63, y -> y.staleAt());
            s.does(x, 1, y -> y.stale());
        });
        s.says("20", "-2", () -> s.asks(EdgesOfCallsTest::busy, -2, x -> x.staleAt()));
        s.says("21", "MISSING: how many: none, all 256", () -> {
            s.asks(told(Texts.PLAIN), 0, x -> x.missing());
            s.asks(told(Texts.ALL), 256, x -> x.missing());
            s.asks(EdgesOfCallsTest::allThere, 0, x -> x.missing());
        });
        s.says("21", "by which LOOK is DONE, and HARDWARE doesn't HIT: one that is stale isn't missing", () -> {
            ShadowPager x = allStale();
            for (int v = 0; v < 8; v++) {
                x.store(0, v, 1287, true);
            }
            s.does(x, 32, y -> y.stale());
            s.does(x, 0, y -> y.missing());
        });
    }

    // ---- promises 22 to 28

    private void shadowAndEntry() {
        s.says("22", "NONE: 1: no such SHADOW TABLE: the pool's alone", () -> {
            for (int n : new int[] {-1, 3, 4, 7, 8, MIN, MAX}) {
                s.refuses(EdgesOfCallsTest::busy, 1, -1, x -> x.shadow(n, 0));
            }
            for (int pool = 3; pool <= 8; pool++) {
                int last = pool - 1;
                Sentences.Maker one = told("machine pool " + pool + " root 0");
                s.asks(one, -2, x -> x.shadow(last, 0));
                s.refuses(one, 1, -1, x -> x.shadow(last + 1, 0));
            }
        });
        s.says("22", "NONE: 1: nothing else is told of one", () -> {
            for (int what : new int[] {-1, 6, 7, MIN, MAX}) {
                s.refuses(EdgesOfCallsTest::busy, 1, -1, x -> x.shadow(0, what));
            }
        });
        withoutMachine("22", -1, x -> x.shadow(0, 0));
        s.says("22", "KIND (0 ROOT, 1 LEAF, 2 BROKEN; -2 it is free), and the rest of each", () -> {
            int[][] due = {{0, 0, 0, 3, 0, 0}, {1, 1, 1, 5, 1, 1}, {2, 8, 0, 2, 2, 1}};
            for (int n = 0; n < 3; n++) {
                for (int what = 0; what < 6; what++) {
                    int table = n;
                    int which = what;
                    s.asks(EdgesOfCallsTest::busy, due[n][what], x -> x.shadow(table, which));
                }
            }
        });
        s.says("22", "a free one: -2, of which FRAME -2; 2 to 5 are 0", () -> {
            int[] due = {-2, -2, 0, 0, 0, 0};
            for (int what = 0; what < 6; what++) {
                int which = what;
                s.asks(told(Texts.BASE), due[what], x -> x.shadow(0, which));
            }
        });
        s.says("22", "ENTRIES that are there, as bits: all eight", () -> {
            s.asks(EdgesOfCallsTest::allThere, 255, x -> x.shadow(0, 3));
            s.asks(EdgesOfCallsTest::allThere, 255, x -> x.shadow(1, 3));
        });
        s.says("22", "how many ENTRIES of ROOTS tell it: eight", () -> s.asks(EdgesOfCallsTest::allThere, 8, x -> x.shadow(1, 5)));
        s.says("22", "of which FRAME: 15, and a broken one of 0", () -> {
            ShadowPager y = Checks.of("machine pool 3 root 15;host 7 7 rw;word 15 0 1825");
            y.access(7, false, false);
            s.does(y, 15, x -> x.shadow(0, 1));
            s.does(y, 0, x -> x.shadow(1, 1));
        });
        s.says("23", "NONE: 1: no such SHADOW TABLE, no such place", () -> {
            for (int n : new int[] {-1, 3, 8, MIN, MAX}) {
                s.refuses(EdgesOfCallsTest::busy, 1, -1, x -> x.entry(n, 0));
            }
            for (int i : NO_PLACES) {
                s.refuses(EdgesOfCallsTest::busy, 1, -1, x -> x.entry(0, i));
            }
            s.refuses(told("machine pool 7 root 0"), 1, -1, x -> x.entry(7, 0));
            s.asks(told("machine pool 8 root 0"), -2, x -> x.entry(7, 7));
        });
        withoutMachine("23", -1, x -> x.entry(0, 0));
        s.says("23", "what it tells times 4, and 2 for W, 1 for U: 0, too", () -> {
            s.asks(EdgesOfCallsTest::busy, 7, x -> x.entry(0, 0));
            s.asks(EdgesOfCallsTest::busy, 8, x -> x.entry(0, 1));
            s.asks(EdgesOfCallsTest::busy, 7, x -> x.entry(1, 2));
            ShadowPager y = Checks.of(Texts.PLAIN + ";host 0 0 rw;host 15 1 rw;word 0 0 263;word 1 0 1;word 1 7 3847");
            y.access(0, false, false);
            y.access(7, true, true);
            s.does(y, 0, x -> x.entry(1, 0));
            s.does(y, 63, x -> x.entry(1, 7));
        });
        s.says("23", "-2 it isn't there", () -> {
            s.asks(EdgesOfCallsTest::busy, -2, x -> x.entry(0, 7));
            s.asks(told(Texts.BASE), -2, x -> x.entry(2, 0));
        });
    }

    private void mapsWritersWatched() {
        frames("24", (x, n) -> x.maps(n));
        frames("25", (x, n) -> x.writers(n));
        frames("26", (x, n) -> x.watched(n));
        s.says("24", "MAPS of a FRAME: how many: none, many", () -> {
            s.asks(EdgesOfCallsTest::allThere, 8, x -> x.maps(5));
            s.asks(EdgesOfCallsTest::allThere, 0, x -> x.maps(1));
            s.asks(told(Texts.ALL), 0, x -> x.maps(5));
            // a root's entry tells table 1, which is no map of frame 1; frame 0 is the one that no map tells
            s.asks(EdgesOfCallsTest::allThere, 0, x -> x.maps(0));
        });
        s.says("25", "How many of them have W: none, some, all", () -> {
            s.asks(EdgesOfCallsTest::allThere, 8, x -> x.writers(5));
            s.asks(EdgesOfCallsTest::busy, 0, x -> x.writers(9));
            ShadowPager y = allThere();
            y.flush(3);
            y.clean(5);
            y.access(3, true, false);
            s.does(y, 1, x -> x.writers(5));
        });
        s.says("26", "1 if a FRAME is WATCHED, else 0", () -> {
            s.asks(EdgesOfCallsTest::allThere, 1, x -> x.watched(0));
            s.asks(EdgesOfCallsTest::allThere, 1, x -> x.watched(1));
            s.asks(EdgesOfCallsTest::allThere, 0, x -> x.watched(5));
            s.asks(EdgesOfCallsTest::allThere, 0, x -> x.watched(15));
            // its leaf is out of step; the broken one of 8 watches nothing
            s.asks(EdgesOfCallsTest::busy, 0, x -> x.watched(1));
            s.asks(EdgesOfCallsTest::busy, 0, x -> x.watched(8));
            s.asks(told(Texts.ALL), 0, x -> x.watched(0));
        });
    }

    private void outOfStepAndDropsNext() {
        withoutMachine("27", -1, x -> x.outOfStep());
        s.says("27", "TABLES that are OUT OF STEP, as bits: none, one, more", () -> {
            s.asks(told(Texts.BASE), 0, x -> x.outOfStep());
            s.asks(EdgesOfCallsTest::busy, 2, x -> x.outOfStep());
            s.does(twoOutOfStep(), 6, x -> x.outOfStep());
        });
        withoutMachine("28", -1, x -> x.dropsNext());
        s.says("28", "-2 one is free", () -> {
            s.asks(told(Texts.LEAVES), -2, x -> x.dropsNext());
            ShadowPager y = Checks.of(Texts.LEAVES);
            y.access(0, false, false);
            s.does(y, -2, x -> x.dropsNext());
        });
        s.says("28", "The TABLE that would be DROPPED next: it is", () -> {
            ShadowPager y = Checks.of(Texts.LEAVES);
            y.access(0, false, false);
            y.access(8, false, false);
            int[] pages = {16, 24, 0, 8};
            int[] next = {1, 2, 1, 2};
            for (int i = 0; i < pages.length; i++) {
                s.does(y, next[i], x -> x.dropsNext());
                y.access(pages[i], false, false);
                c.due("another leaf is in its place", pages[i] / 8 + 1, y.shadow(next[i], 1));
                c.due("drops", i + 1, y.size(8));
            }
        });
        s.says("28", "by the root FRAME now: table 0, when another root is loaded", () -> {
            ShadowPager y = Checks.of(Texts.LEAVES);
            y.access(0, false, false);
            y.access(8, false, false);
            s.does(y, 1, x -> x.dropsNext());
            y.load(9);
            s.does(y, 0, x -> x.dropsNext());
        });
    }

    /** The leaves of frames 1 and 2 are tables 1 and 2, and out of step both. */
    private ShadowPager twoOutOfStep() {
        ShadowPager x = Checks.of("machine pool 5 root 0;host 1 1 rw;host 2 2 rw;word 0 0 263;word 0 1 519;word 1 0 263;word 2 0 519");
        c.due("a trap", 1, x.store(0, 7, 0, false));
        c.due("a trap", 2, x.store(8, 7, 0, false));
        c.due("traps", 2, x.size(7));
        return x;
    }

    // ---- promises 29 to 35

    private void runs() {
        NumberCall[] calls = {(x, n) -> x.runFaults(n), (x, n) -> x.runRefused(n), (x, n) -> x.runDrops(n)};
        for (int k = 0; k < calls.length; k++) {
            NumberCall call = calls[k];
            String place = "" + (29 + k);
            withoutMachine(place, -1, x -> call.on(x, 3));
            s.says(place, "by a pool (3 .. 8); NONE: 2", () -> {
                for (int pool : NO_POOLS) {
                    s.refuses(EdgesOfCallsTest::busy, 2, -1, x -> call.on(x, pool));
                }
            });
            s.says(place, "NONE: 1, ahead of 2", () -> s.refuses(EdgesOfCallsTest::none, 1, -1, x -> call.on(x, 9)));
            s.says(place, "no ACCESSES told", () -> {
                for (int pool = 3; pool <= 8; pool++) {
                    int many = pool;
                    s.asks(told(Texts.PLAIN), 0, x -> call.on(x, many));
                }
            });
        }
        String seven = "machine pool 3 root 0;host 15 0 ro" + Texts.sevenLeaves()
                + Texts.lines("run 0 r;run 8 r;run 16 r;run 24 r;run 32 r;run 40 r;run 48 r;run 0 r;run 8 ur;run 15 r", 0, 1);
        int[] faults = {10, 10, 10, 10, 10, 8};
        int[] drops = {7, 6, 5, 4, 3, 0};
        for (int pool = 3; pool <= 8; pool++) {
            int many = pool;
            s.says("29", "How many ACCESSES of RUN FAULT by a pool of " + pool, () -> s.asks(told(seven), faults[many - 3], x -> x.runFaults(many)));
            s.says("30", "How many of them aren't DONE (no HIT, neither), by a pool of " + pool, () -> s.asks(told(seven), 1, x -> x.runRefused(many)));
            s.says("31", "How many TABLES are DROPPED by a pool of " + pool, () -> s.asks(told(seven), drops[many - 3], x -> x.runDrops(many)));
        }
        s.says("29", "none, all ten FAULT", () -> {
            String done = Texts.PLAIN + ";host 5 5 rw;word 0 0 263;word 1 0 1287";
            s.asks(told(done + Texts.lines("run 0 r", 0, 10)), 1, x -> x.runFaults(3));
            s.asks(told(done + Texts.lines("run 9 r", 0, 10)), 10, x -> x.runFaults(3));
        });
        s.says("30", "none, all ten aren't DONE: absent, denied, gone", () -> {
            String done = Texts.PLAIN + ";host 5 5 ro;word 0 0 263;word 1 0 1287;word 1 1 1543";
            s.asks(told(done + Texts.lines("run 0 r", 0, 10)), 0, x -> x.runRefused(3));
            s.asks(told(done + ";run 0 w;run 1 r;run 2 r" + Texts.lines("run 9 r", 0, 7)), 10, x -> x.runRefused(3));
        });
        s.says("29", "RUN: from the beginning on, whatever was done since", () -> {
            ShadowPager x = busy();
            x.unmap(2);
            x.load(9);
            s.does(x, 6, y -> y.runFaults(3));
            s.does(x, 2, y -> y.runRefused(3));
            s.does(x, 0, y -> y.runDrops(8));
        });
    }

    private void poolFor() {
        withoutMachine("32", -1, x -> x.poolFor(0));
        s.says("32", "no more than k (0 .. 10); NONE: 2", () -> {
            for (int k : new int[] {-1, 11, 12, MIN, MAX}) {
                s.refuses(EdgesOfCallsTest::busy, 2, -1, x -> x.poolFor(k));
            }
        });
        s.says("32", "NONE: 1, ahead of 2", () -> s.refuses(EdgesOfCallsTest::none, 1, -1, x -> x.poolFor(11)));
        s.says("32", "k of 0: by no run, by one that faults", () -> {
            s.asks(told(Texts.PLAIN), 3, x -> x.poolFor(0));
            s.asks(told(Texts.PLAIN + ";run 0 r"), -2, x -> x.poolFor(0));
        });
        s.says("32", "k of 10: the least pool", () -> s.asks(told(Texts.PLAIN + Texts.lines("run 0 r", 0, 10)), 3, x -> x.poolFor(10)));
        s.says("32", "The least pool by which no more than k FAULT: the least, one between, the most; -2", () -> {
            s.asks(told(Texts.LEAVES), 3, x -> x.poolFor(6));
            s.asks(told(Texts.LEAVES), 5, x -> x.poolFor(5));
            s.asks(told(Texts.LEAVES), 5, x -> x.poolFor(4));
            s.asks(told(Texts.LEAVES), -2, x -> x.poolFor(3));
            String seven = "machine pool 3 root 0;host 15 0 ro" + Texts.sevenLeaves()
                    + Texts.lines("run 0 r;run 8 r;run 16 r;run 24 r;run 32 r;run 40 r;run 48 r;run 0 r", 0, 1);
            s.asks(told(seven), 3, x -> x.poolFor(8));
            s.asks(told(seven), 8, x -> x.poolFor(7));
            s.asks(told(seven), -2, x -> x.poolFor(6));
        });
    }

    private void sweep() {
        pages("33", (x, n) -> x.sweep(n, Math.max(n, 63)));
        pages("33", (x, n) -> x.sweep(0, n));
        s.says("33", "from one to another one (the second one not less): the same, one more, all", () -> {
            s.asks(told(Texts.PLAIN), 1, x -> x.sweep(0, 0));
            s.asks(told(Texts.PLAIN), 1, x -> x.sweep(63, 63));
            s.asks(told(Texts.PLAIN), 2, x -> x.sweep(62, 63));
            s.asks(told(Texts.PLAIN), 64, x -> x.sweep(0, 63));
        });
        s.says("33", "NONE: 2 (it is less)", () -> {
            s.refuses(EdgesOfCallsTest::busy, 2, -1, x -> x.sweep(1, 0));
            s.refuses(EdgesOfCallsTest::busy, 2, -1, x -> x.sweep(63, 62));
            s.refuses(EdgesOfCallsTest::busy, 2, -1, x -> x.sweep(63, 0));
        });
        s.says("33", "NONE: 1, ahead of 2", () -> {
            s.refuses(EdgesOfCallsTest::busy, 1, -1, x -> x.sweep(0, -1));
            s.refuses(EdgesOfCallsTest::busy, 1, -1, x -> x.sweep(64, 0));
            s.refuses(EdgesOfCallsTest::none, 1, -1, x -> x.sweep(1, 0));
        });
        s.says("33", "from NOW on: none faults", () -> s.asks(EdgesOfCallsTest::allThere, 0, x -> x.sweep(0, 63)));
        s.says("33", "are read: for no user, not to write", () -> {
            ShadowPager y = Checks.of(Texts.PLAIN + ";host 5 5 ro;word 0 0 257;word 1 0 1281");
            s.does(y, 1, x -> x.sweep(0, 0));
            y.access(0, false, false);
            s.does(y, 0, x -> x.sweep(0, 0));
            s.does(y, 63, x -> x.sweep(0, 63));
        });
    }

    private void drawn() {
        NumberCall[] seeds = {(x, n) -> x.drawnFaults(n, 1), (x, n) -> x.drawnMarks(n, 1)};
        NumberCall[] counts = {(x, n) -> x.drawnFaults(1, n), (x, n) -> x.drawnMarks(1, n)};
        for (int k = 0; k < 2; k++) {
            String place = "" + (34 + k);
            NumberCall bySeed = seeds[k];
            NumberCall byCount = counts[k];
            withoutMachine(place, -1, x -> bySeed.on(x, 0));
            s.says(place, "a SEED (0 .. 65,536); NONE: 2", () -> {
                for (int seed : new int[] {-1, 65537, MIN, MAX}) {
                    s.refuses(EdgesOfCallsTest::busy, 2, -1, x -> bySeed.on(x, seed));
                }
            });
            s.says(place, "n 0 .. 200; NONE: 2", () -> {
                for (int n : new int[] {-1, 201, MIN, MAX}) {
                    s.refuses(EdgesOfCallsTest::busy, 2, -1, x -> byCount.on(x, n));
                }
            });
            s.says(place, "NONE: 1, ahead of 2", () -> {
                s.refuses(EdgesOfCallsTest::none, 1, -1, x -> bySeed.on(x, -1));
                s.refuses(EdgesOfCallsTest::none, 1, -1, x -> byCount.on(x, 201));
            });
        }
        s.says("34", "a SEED of 0, of 65,536; n of 0, 1, 200", () -> {
            for (int seed : new int[] {0, 1, 65536}) {
                s.asks(told(Texts.PLAIN), 0, x -> x.drawnFaults(seed, 0));
                s.asks(told(Texts.PLAIN), 1, x -> x.drawnFaults(seed, 1));
                s.asks(told(Texts.PLAIN), 200, x -> x.drawnFaults(seed, 200));
            }
            s.asks(EdgesOfCallsTest::allThere, 0, x -> x.drawnFaults(0, 200));
        });
        s.says("35", "FRAMES whose MARK is set then, with those NOW: n of 0", () -> {
            s.asks(EdgesOfCallsTest::busy, 6, x -> x.drawnMarks(0, 0));
            s.asks(told(Texts.BASE), 0, x -> x.drawnMarks(65536, 0));
        });
        s.says("35", "FRAMES whose MARK is set then: n of 200", () -> {
            s.asks(told(Texts.ALL), 32, x -> x.drawnMarks(1, 200));
            // this seed stays, and draws page 0 to read
            s.asks(told(Texts.ALL), 0, x -> x.drawnMarks(65536, 200));
        });
    }

    // ---- promise 36

    private void rate() {
        withoutMachine("36", -1, x -> x.rate(false));
        withoutMachine("36", -1, x -> x.rate(true));
        s.says("36", "(0 by 1): no ACCESS, none that HIT", () -> {
            s.asks(told(Texts.BASE), 0, x -> x.rate(false));
            s.asks(told(Texts.BASE), 1, x -> x.rate(true));
            s.asks(EdgesOfCallsTest::busy, 0, x -> x.rate(false));
            s.asks(EdgesOfCallsTest::busy, 1, x -> x.rate(true));
        });
        s.says("36", "in lowest terms: 1 by 1, 1 by 2, 2 by 3", () -> {
            ShadowPager x = Checks.of(Texts.BASE);
            x.access(0, true, true);
            x.access(0, false, false);
            s.does(x, 1, y -> y.rate(false));
            s.does(x, 2, y -> y.rate(true));
            x.store(0, 0, 0, false);
            s.does(x, 2, y -> y.rate(false));
            s.does(x, 3, y -> y.rate(true));
            x.store(63, 0, 0, false);
            s.does(x, 1, y -> y.rate(false));
            s.does(x, 2, y -> y.rate(true));
            x.access(0, false, true);
            s.does(x, 3, y -> y.rate(false));
            s.does(x, 5, y -> y.rate(true));
            x.access(0, false, true);
            s.does(x, 2, y -> y.rate(false));
            s.does(x, 3, y -> y.rate(true));
        });
        s.says("36", "(those undone, too): and those ahead of going back to an image", () -> {
            ShadowPager x = Checks.of(Texts.BASE);
            x.image();
            x.access(0, true, true);
            x.access(0, false, false);
            x.undo();
            x.undo();
            s.does(x, 1, y -> y.rate(false));
            s.does(x, 2, y -> y.rate(true));
            x.back(0);
            s.does(x, 2, y -> y.rate(true));
        });
        s.says("36", "all ACCESSES and STORES, as ACTS: refused ones are none, other ACTS neither", () -> {
            ShadowPager x = Checks.of(Texts.BASE);
            x.access(0, true, true);
            x.access(0, true, true);
            x.access(64, false, false);
            x.store(0, 8, 0, false);
            x.store(0, 0, 4096, false);
            x.load(0);
            x.flush(63);
            x.device(2, 0, 0);
            x.clean(15);
            x.sweep(0, 63);
            x.runFaults(3);
            x.drawnFaults(0, 200);
            s.does(x, 1, y -> y.rate(false));
            s.does(x, 2, y -> y.rate(true));
        });
        s.says("36", "since the text was told", () -> {
            ShadowPager x = Checks.of(Texts.BASE);
            x.access(0, true, true);
            x.access(0, true, true);
            Checks.read(x, "machine pool 9");
            s.does(x, 2, y -> y.rate(true));
            Checks.read(x, Texts.BASE);
            s.does(x, 1, y -> y.rate(true));
            s.does(x, 0, y -> y.rate(false));
        });
    }

    // ---- promises 37 to 43

    private static final String DOUBTS = Texts.PLAIN + ";host 5 5 rw;host 6 6 ro;word 0 0 263;word 1 0 1281"
            + ";unsure 1 0 1283;unsure 1 1 1537;unsure 1 2 1793;unsure 15 7 4095";

    /** One of the two unsure words was the other one, not both, not none. */
    private static final String EITHER = Texts.PLAIN + ";host 0 0 rw;host 1 1 rw;word 0 0 263;word 0 2 7;word 1 2 261"
            + ";unsure 0 0 5;unsure 0 2 1;saw 2 ur done;saw 16 w denied";

    private void fitting() {
        withoutMachine("37", -1, x -> x.fits());
        withoutMachine("38", -1, x -> x.fitAt(0));
        withoutMachine("39", -1, x -> x.could());
        withoutMachine("40", -1, x -> x.surely());
        s.says("37", "FITS: how many: none, the empty one alone, all 16", () -> {
            s.asks(told(Texts.PLAIN + ";saw 0 r done"), 0, x -> x.fits());
            s.asks(told(Texts.PLAIN), 1, x -> x.fits());
            s.asks(told(DOUBTS), 16, x -> x.fits());
            s.asks(told(DOUBTS + ";saw 0 w done"), 8, x -> x.fits());
            s.asks(told(DOUBTS + ";saw 0 w denied;saw 1 r done;saw 2 r gone"), 2, x -> x.fits());
        });
        s.says("38", "The i-th: the first, the last", () -> {
            for (int i = 0; i < 16; i++) {
                int which = i;
                s.asks(told(DOUBTS), i, x -> x.fitAt(which));
            }
            s.asks(told(DOUBTS + ";saw 0 w denied;saw 1 r done;saw 2 r gone"), 6, x -> x.fitAt(0));
            s.asks(told(DOUBTS + ";saw 0 w denied;saw 1 r done;saw 2 r gone"), 14, x -> x.fitAt(1));
            s.asks(told(Texts.PLAIN), 0, x -> x.fitAt(0));
            s.asks(told(EITHER), 1, x -> x.fitAt(0));
            s.asks(told(EITHER), 2, x -> x.fitAt(1));
        });
        s.says("38", "NONE: 1 (i, too)", () -> {
            for (int i : new int[] {-1, 16, 17, MIN, MAX}) {
                s.refuses(told(DOUBTS), 1, -1, x -> x.fitAt(i));
            }
            s.refuses(told(DOUBTS + ";saw 0 w denied;saw 1 r done;saw 2 r gone"), 1, -1, x -> x.fitAt(2));
            s.refuses(told(Texts.PLAIN), 1, -1, x -> x.fitAt(1));
            s.refuses(told(Texts.PLAIN + ";saw 0 r done"), 1, -1, x -> x.fitAt(0));
        });
        s.says("39", "Unsure WORDS in some: none, all", () -> {
            s.asks(told(DOUBTS), 15, x -> x.could());
            s.asks(told(Texts.PLAIN), 0, x -> x.could());
            s.asks(told(DOUBTS + ";saw 63 r done"), 0, x -> x.could());
            s.asks(told(DOUBTS + ";saw 0 w denied;saw 2 r absent"), 10, x -> x.could());
            s.asks(told(EITHER), 3, x -> x.could());
        });
        s.says("40", "Unsure WORDS in all: none, all", () -> {
            s.asks(told(DOUBTS), 0, x -> x.surely());
            s.asks(told(EITHER), 0, x -> x.surely());
            s.asks(told(DOUBTS + ";saw 0 w done;saw 1 r done;saw 2 r gone"), 7, x -> x.surely());
            s.asks(told(Texts.PLAIN + Texts.lines("unsure 0 # 33", 0, 4) + Texts.lines("saw #0 r gone", 1, 3) + ";saw 0 r gone;saw 31 r gone"),
                15, x -> x.surely());
        });
        s.says("40", "(0 without a set)", () -> s.asks(told(DOUBTS + ";saw 63 r done"), 0, x -> x.surely()));
    }

    private void asking() {
        withoutMachine("41", -1, x -> x.ask());
        withoutMachine("42", -1, x -> x.askLeaves());
        withoutMachine("43", -1, x -> x.judge());
        s.says("41", "-2 no FITS", () -> s.asks(told(DOUBTS + ";saw 63 r done"), -2, x -> x.ask()));
        s.says("41", "-2 no unsure WORD", () -> s.asks(told(Texts.PLAIN), -2, x -> x.ask()));
        s.says("42", "-2 likewise", () -> {
            s.asks(told(DOUBTS + ";saw 63 r done"), -2, x -> x.askLeaves());
            s.asks(told(Texts.PLAIN), -2, x -> x.askLeaves());
            s.asks(told(Texts.PLAIN + ";saw 0 r done"), -2, x -> x.askLeaves());
        });
        s.says("41", "the first such, of many alike", () -> {
            s.asks(told(DOUBTS), 0, x -> x.ask());
            s.asks(told(DOUBTS + ";saw 0 w denied"), 1, x -> x.ask());
            s.asks(told(DOUBTS + ";saw 0 w done"), 1, x -> x.ask());
        });
        s.says("41", "the last of four; the first, though all are known", () -> {
            s.asks(told(DOUBTS + ";saw 0 w done;saw 1 r done;saw 2 r gone"), 3, x -> x.ask());
            s.asks(told(Texts.PLAIN + ";unsure 0 0 33;saw 0 r gone"), 0, x -> x.ask());
        });
        s.says("42", "How many are left at most then: 8 of 16, 1 of 2, 1 of 1", () -> {
            s.asks(told(DOUBTS), 8, x -> x.askLeaves());
            s.asks(told(DOUBTS + ";saw 0 w done;saw 1 r done;saw 2 r gone"), 1, x -> x.askLeaves());
            s.asks(told(Texts.PLAIN + ";unsure 0 0 33;saw 0 r gone"), 1, x -> x.askLeaves());
        });
        s.says("42", "at most: the greater of what is left with it, and without it", () -> {
            // three sets: one, the other, both words lead page 0 to be there
            String three = Texts.PLAIN + ";host 0 0 rw;host 1 1 rw;word 0 0 1;unsure 0 1 33;unsure 0 2 33;saw 8 r ";
            s.asks(told(three + "done"), 2, x -> x.fits());
            s.asks(told(three + "done"), 1, x -> x.askLeaves());
            s.asks(told(three + "done"), 1, x -> x.ask());
            String some = Texts.PLAIN + ";host 1 1 rw;word 0 0 769;word 2 0 257;word 3 0 512;unsure 0 0 513;unsure 3 0 257;saw 0 r done";
            s.asks(told(some), 3, x -> x.fits());
            s.asks(told(some), 3, x -> x.could());
            s.asks(told(some), 0, x -> x.ask());
            s.asks(told(some), 2, x -> x.askLeaves());
        });
        s.says("43", "The first seen, as told, that isn't so by WORDS as told: the first, the last of six; -2", () -> {
            s.asks(told(Texts.PLAIN), -2, x -> x.judge());
            s.asks(told(Texts.PLAIN + ";saw 0 r done;saw 1 r done"), 0, x -> x.judge());
            s.asks(told(Texts.PLAIN + Texts.lines("saw # r absent", 0, 5) + ";saw 6 r gone"), 5, x -> x.judge());
            s.asks(told(Texts.PLAIN + Texts.lines("saw # r absent", 0, 6)), -2, x -> x.judge());
            s.asks(told(Texts.PLAIN + ";unsure 0 0 33;saw 0 r gone"), 0, x -> x.judge());
        });
        s.says("37", "at first: not by what was done since", () -> {
            ShadowPager x = busy();
            x.unmap(2);
            x.load(9);
            s.does(x, 1, y -> y.fits());
            s.does(x, -2, y -> y.judge());
            s.does(x, 0, y -> y.ask());
        });
    }

    // ---- promises 44 to 47

    /** An act: by an object just made it is one more that can be undone, whatever comes of it. */
    private void acts(Sentences.Maker maker, long due, Sentences.Call call) {
        ShadowPager x = maker.make();
        ShadowPager y = maker.make();
        s.does(x, due, call);
        c.due("one act more", y.size(9) + 1, x.size(9));
        c.due("it is undone", true, x.undo());
        c.due("as many as ahead", y.size(9), x.size(9));
        c.due("all is as it was", true, Sentences.scene(x).equals(Sentences.scene(y)));
    }

    private void access() {
        pages("44", (x, n) -> x.access(n, false, false));
        pages("44", (x, n) -> x.access(n, true, true));
        s.says("44", "the host frame, 0 and 31, too", () -> {
            acts(told(Texts.PLAIN + ";host 5 0 rw;word 0 0 263;word 1 0 1287"), 0, x -> x.access(0, true, true));
            acts(told(Texts.PLAIN + ";host 15 31 rw;word 0 7 2087"), 31, x -> x.access(63, true, true));
            acts(EdgesOfCallsTest::busy, 10, x -> x.access(0, true, true));
        });
        s.says("44", "or what LOOK says: no refusals, but ACTS", () -> {
            acts(EdgesOfCallsTest::busy, -2, x -> x.access(63, false, false));
            acts(EdgesOfCallsTest::busy, -3, x -> x.access(1, true, false));
            acts(EdgesOfCallsTest::busy, -4, x -> x.access(8, false, false));
        });
        s.says("44", "if that isn't DONE, nothing else is done", () -> {
            for (int v : new int[] {63, 1, 8}) {
                ShadowPager x = busy();
                ShadowPager y = busy();
                x.access(v, true, false);
                // an access of another page that isn't there counts the same fault
                y.access(62, false, false);
                c.due("all else", true, Sentences.all(x).equals(Sentences.all(y)));
            }
        });
    }

    private void store() {
        pages("45", (x, n) -> x.store(n, 0, 0, false));
        places("45", (x, n) -> x.store(0, n, 0, true));
        s.says("45", "a WORD (0 .. 4,095); NONE: 2", () -> {
            for (int value : NO_WORDS) {
                s.refuses(EdgesOfCallsTest::busy, 2, -1, x -> x.store(0, 0, value, false));
            }
            for (int value : new int[] {0, 4095}) {
                ShadowPager x = busy();
                s.does(x, 10, y -> y.store(0, 7, value, false));
                c.due("word", value, x.word(2, 7));
            }
        });
        s.says("45", "NONE: 1 (the place, too), ahead of 2", () -> {
            s.refuses(EdgesOfCallsTest::busy, 1, -1, x -> x.store(0, 8, 4096, false));
            s.refuses(EdgesOfCallsTest::busy, 1, -1, x -> x.store(64, 0, -1, false));
            s.refuses(EdgesOfCallsTest::none, 1, -1, x -> x.store(0, 0, 4096, false));
        });
        s.says("45", "2 also by a PAGE that isn't there", () -> s.refuses(EdgesOfCallsTest::busy, 2, -1, x -> x.store(63, 0, 4096, true)));
        s.says("45", "likewise: the host frame, or what LOOK says: no refusals, but ACTS", () -> {
            acts(EdgesOfCallsTest::busy, 10, x -> x.store(0, 0, 1, true));
            acts(EdgesOfCallsTest::busy, 12, x -> x.store(2, 0, 0, false));
            acts(EdgesOfCallsTest::busy, -2, x -> x.store(63, 0, 1, false));
            acts(EdgesOfCallsTest::busy, -3, x -> x.store(1, 0, 1, false));
            acts(EdgesOfCallsTest::busy, -3, x -> x.store(9, 0, 1, true));
            acts(EdgesOfCallsTest::busy, -4, x -> x.store(8, 0, 1, false));
            acts(told(Texts.SELF), 11, x -> x.store(0, 0, 0, false));
        });
        s.says("45", "one that isn't DONE writes nothing", () -> {
            ShadowPager x = busy();
            x.store(1, 0, 77, false);
            x.store(63, 0, 77, false);
            x.store(8, 0, 77, false);
            for (int f = 0; f < 16; f++) {
                c.due("word", f == 0 ? 271 : f == 1 ? 519 : 0, x.word(f, 0));
            }
        });
    }

    private void loadAndFlush() {
        frames("46", (x, n) -> x.load(n));
        s.says("46", "how many LEAVES were OUT OF STEP: none, one, two", () -> {
            acts(told(Texts.BASE), 0, x -> x.load(0));
            acts(EdgesOfCallsTest::busy, 1, x -> x.load(0));
            acts(EdgesOfCallsTest::busy, 1, x -> x.load(15));
            acts(() -> twoOutOfStep(), 2, x -> x.load(0));
            ShadowPager y = twoOutOfStep();
            y.load(0);
            s.does(y, 0, x -> x.load(0));
            s.does(y, 0, x -> x.outOfStep());
        });
        pages("47", (x, n) -> x.flush(n));
        s.says("47", "1 if the ENTRY was there, else 0", () -> {
            acts(EdgesOfCallsTest::busy, 1, x -> x.flush(0));
            acts(EdgesOfCallsTest::busy, 0, x -> x.flush(1));
            acts(EdgesOfCallsTest::busy, 1, x -> x.flush(9));
            acts(EdgesOfCallsTest::busy, 0, x -> x.flush(63));
            acts(told(Texts.BASE), 0, x -> x.flush(0));
            acts(EdgesOfCallsTest::allThere, 1, x -> x.flush(63));
        });
        s.says("47", "no ROOT of the root FRAME, no ENTRY of it", () -> {
            ShadowPager y = busy();
            y.load(3);
            s.does(y, 0, x -> x.flush(0));
            ShadowPager z = Checks.of(Texts.ALL);
            z.access(0, false, false);
            s.does(z, 0, x -> x.flush(8));
            s.does(z, 1, x -> x.flush(0));
        });
    }

    // ---- promises 48 to 52

    private void device() {
        frames("48", (x, n) -> x.device(n, 0, 0));
        places("48", (x, n) -> x.device(1, n, 0));
        s.says("48", "NONE: 2 (0 .. 4,095)", () -> {
            for (int value : NO_WORDS) {
                s.refuses(EdgesOfCallsTest::busy, 2, -1, x -> x.device(1, 0, value));
            }
            for (int value : new int[] {0, 4095}) {
                ShadowPager x = busy();
                s.does(x, 0, y -> y.device(1, 7, value));
                c.due("word", value, x.word(1, 7));
            }
        });
        s.says("48", "NONE: 5 (not backed)", () -> {
            s.refuses(EdgesOfCallsTest::busy, 5, -1, x -> x.device(0, 0, 0));
            s.refuses(EdgesOfCallsTest::busy, 5, -1, x -> x.device(15, 7, 4095));
        });
        s.says("48", "1 ahead of 2, 2 ahead of 5", () -> {
            s.refuses(EdgesOfCallsTest::busy, 1, -1, x -> x.device(16, 0, 4096));
            s.refuses(EdgesOfCallsTest::busy, 1, -1, x -> x.device(0, 8, 4096));
            s.refuses(EdgesOfCallsTest::busy, 2, -1, x -> x.device(0, 0, 4096));
            s.refuses(EdgesOfCallsTest::none, 1, -1, x -> x.device(0, 0, 4096));
        });
        s.says("48", "how many ENTRIES are there no more: none, one, two", () -> {
            String both = Texts.PLAIN + ";host 0 3 ro;word 0 0 7;word 0 1 7";
            Sentences.Maker there = () -> {
                ShadowPager x = Checks.of(both);
                x.access(0, false, false);
                x.access(1, false, false);
                return x;
            };
            acts(there, 2, x -> x.device(0, 0, 7));
            acts(there, 1, x -> x.device(0, 1, 7));
            acts(there, 0, x -> x.device(0, 2, 7));
            acts(told(both), 0, x -> x.device(0, 0, 7));
        });
    }

    private void unmap() {
        frames("49", (x, n) -> x.unmap(n));
        s.says("49", "NONE: 5 (not backed)", () -> {
            s.refuses(EdgesOfCallsTest::busy, 5, -1, x -> x.unmap(0));
            s.refuses(EdgesOfCallsTest::busy, 5, -1, x -> x.unmap(15));
            s.refuses(() -> {
                ShadowPager x = busy();
                x.unmap(2);
                return x;
            }, 5, -1, x -> x.unmap(2));
        });
        s.says("49", "how many ENTRIES are there no more: none, one, eight", () -> {
            acts(EdgesOfCallsTest::busy, 0, x -> x.unmap(3));
            acts(EdgesOfCallsTest::busy, 1, x -> x.unmap(9));
            acts(EdgesOfCallsTest::busy, 1, x -> x.unmap(2));
            acts(EdgesOfCallsTest::allThere, 8, x -> x.unmap(5));
        });
    }

    private void give() {
        s.says("50", "false: 1", () -> {
            for (int f : NO_FRAMES) {
                s.refuses(EdgesOfCallsTest::busy, 1, 0, x -> Sentences.bit(x.give(f, 5, true)));
            }
        });
        withoutMachine("50", 0, x -> Sentences.bit(x.give(0, 0, true)));
        s.says("50", "a host frame (0 .. 31); false: 2", () -> {
            for (int host : new int[] {-1, 32, 33, MIN, MAX}) {
                s.refuses(EdgesOfCallsTest::busy, 2, 0, x -> Sentences.bit(x.give(5, host, true)));
            }
        });
        s.says("50", "false: 5 (it is backed)", () -> {
            s.refuses(EdgesOfCallsTest::busy, 5, 0, x -> Sentences.bit(x.give(2, 20, true)));
            s.refuses(EdgesOfCallsTest::busy, 5, 0, x -> Sentences.bit(x.give(2, 10, true)));
        });
        s.says("50", "false: 5 (that backs another one)", () -> {
            s.refuses(EdgesOfCallsTest::busy, 5, 0, x -> Sentences.bit(x.give(0, 10, false)));
            s.refuses(told(Texts.PLAIN + ";host 0 0 rw;host 1 31 rw"), 5, 0, x -> Sentences.bit(x.give(2, 0, true)));
            s.refuses(told(Texts.PLAIN + ";host 0 0 rw;host 1 31 rw"), 5, 0, x -> Sentences.bit(x.give(2, 31, true)));
        });
        s.says("50", "1 ahead of 2, 2 ahead of 5", () -> {
            s.refuses(EdgesOfCallsTest::busy, 1, 0, x -> Sentences.bit(x.give(16, 32, true)));
            s.refuses(EdgesOfCallsTest::busy, 2, 0, x -> Sentences.bit(x.give(2, 32, true)));
            s.refuses(EdgesOfCallsTest::none, 1, 0, x -> Sentences.bit(x.give(0, 32, true)));
        });
        s.says("50", "true: FRAMES 0 and 15, host frames 0 and 31, rw and ro", () -> {
            for (int f : new int[] {0, 15}) {
                for (int host : new int[] {0, 31}) {
                    acts(EdgesOfCallsTest::busy, 1, x -> Sentences.bit(x.give(f, host, true)));
                    ShadowPager x = busy();
                    x.give(f, host, host == 0);
                    c.due("backing", host, x.backing(f));
                    c.due("writes", host == 0 ? 1 : 0, x.writes(f));
                }
            }
        });
        s.says("50", "all 16 backed, none backed", () -> {
            ShadowPager x = Checks.of(Texts.PLAIN);
            for (int f = 0; f < 16; f++) {
                s.does(x, 1, y -> Sentences.bit(y.give(f(y), 31 - f(y), false)));
                c.due("backed", f + 1, x.size(1));
            }
            for (int f = 0; f < 16; f++) {
                c.due("no give to one that is backed", false, x.give(f, 0, true));
                c.due("trouble", 5, x.trouble());
            }
            for (int f = 0; f < 16; f++) {
                x.unmap(f);
            }
            c.due("backed", 0, x.size(1));
            s.does(x, 1, y -> Sentences.bit(y.give(3, 31, true)));
        });
    }

    /** The first frame that isn't backed: as many as are backed, when they are given one by one. */
    private static int f(ShadowPager x) {
        return x.size(1);
    }

    private void protectAndClean() {
        frames("51", (x, n) -> x.protect(n));
        s.says("51", "NONE: 5 (not backed, or ro)", () -> {
            s.refuses(EdgesOfCallsTest::busy, 5, -1, x -> x.protect(0));
            s.refuses(EdgesOfCallsTest::busy, 5, -1, x -> x.protect(15));
            s.refuses(EdgesOfCallsTest::busy, 5, -1, x -> x.protect(3));
            s.refuses(() -> {
                ShadowPager x = busy();
                x.protect(2);
                return x;
            }, 5, -1, x -> x.protect(2));
            s.refuses(() -> {
                ShadowPager x = busy();
                x.unmap(2);
                return x;
            }, 5, -1, x -> x.protect(2));
        });
        s.says("51", "how many MAPS lose W: none, one, eight; those without it aren't counted", () -> {
            acts(told(Texts.BASE), 0, x -> x.protect(2));
            acts(EdgesOfCallsTest::busy, 1, x -> x.protect(2));
            acts(EdgesOfCallsTest::busy, 0, x -> x.protect(9));
            acts(EdgesOfCallsTest::allThere, 8, x -> x.protect(5));
        });
        frames("52", (x, n) -> x.clean(n));
        s.says("52", "1 if its MARK was set, else 0, backed or not", () -> {
            acts(EdgesOfCallsTest::busy, 1, x -> x.clean(2));
            acts(EdgesOfCallsTest::busy, 0, x -> x.clean(9));
            acts(EdgesOfCallsTest::busy, 0, x -> x.clean(0));
            acts(EdgesOfCallsTest::busy, 0, x -> x.clean(15));
            ShadowPager y = busy();
            y.unmap(2);
            s.does(y, 1, x -> x.clean(2));
            s.does(y, 0, x -> x.clean(2));
        });
    }

    // ---- promises 53 to 55

    private void undo() {
        s.says("53", "false: 6: without a MACHINE, without an ACT", () -> {
            s.refuses(EdgesOfCallsTest::none, 6, 0, x -> Sentences.bit(x.undo()));
            s.refuses(told(Texts.BASE), 6, 0, x -> Sentences.bit(x.undo()));
        });
        s.says("53", "UNDO: the latest (16 are kept): 15, 16, 17, 40", () -> {
            for (int many : new int[] {15, 16, 17, 40}) {
                ShadowPager x = Checks.of(Texts.BASE);
                for (int i = 1; i <= many; i++) {
                    x.device(1, 7, i);
                    c.due("size(9)", Math.min(i, 16), x.size(9));
                }
                for (int i = 1; i <= Math.min(many, 16); i++) {
                    s.does(x, 1, y -> Sentences.bit(y.undo()));
                    c.due("word", many - i, x.word(1, 7));
                }
                c.due("no more", false, x.undo());
                c.due("trouble", 6, x.trouble());
                c.due("word", Math.max(many - 16, 0), x.word(1, 7));
            }
        });
        s.says("53", "UNDO: it is no ACT itself, and what is undone can't be undone again", () -> {
            ShadowPager x = Checks.of(Texts.BASE);
            x.device(1, 7, 1);
            x.device(1, 7, 2);
            x.undo();
            c.due("size(9)", 1, x.size(9));
            x.device(1, 7, 3);
            x.undo();
            c.due("word", 1, x.word(1, 7));
            x.undo();
            c.due("word", 0, x.word(1, 7));
            c.due("no more", false, x.undo());
        });
        s.says("53", "what is refused, asked or fed is no ACT", () -> {
            ShadowPager x = Checks.of(Texts.BASE);
            x.device(1, 7, 1);
            x.device(0, 7, 1);
            x.access(64, true, true);
            x.unmap(0);
            x.give(2, 0, true);
            x.protect(3);
            x.image();
            x.sweep(0, 63);
            x.drawnFaults(1, 9);
            x.runFaults(3);
            x.feed(0, 0, 0, 0, 0);
            x.machine(99);
            c.due("size(9)", 1, x.size(9));
            x.undo();
            c.due("word", 0, x.word(1, 7));
        });
    }

    private void imageAndBack() {
        withoutMachine("54", -1, x -> x.image());
        s.says("54", "IMAGES: up to 3: its number", () -> {
            ShadowPager x = Checks.of(Texts.BASE);
            for (int i = 0; i < 3; i++) {
                int number = i;
                s.does(x, number, y -> y.image());
                c.due("size(10)", i + 1, x.size(10));
            }
        });
        s.says("54", "NONE: 3", () -> s.refuses(() -> {
            ShadowPager x = busy();
            x.image();
            x.image();
            return x;
        }, 3, -1, x -> x.image()));
        s.says("55", "false: 1: no such IMAGE", () -> {
            for (int n : new int[] {-1, 1, 2, 3, MIN, MAX}) {
                s.refuses(EdgesOfCallsTest::busy, 1, 0, x -> Sentences.bit(x.back(n)));
            }
            s.refuses(told(Texts.BASE), 1, 0, x -> Sentences.bit(x.back(0)));
            s.refuses(() -> {
                ShadowPager x = busy();
                x.image();
                x.image();
                return x;
            }, 1, 0, x -> Sentences.bit(x.back(3)));
        });
        withoutMachine("55", 0, x -> Sentences.bit(x.back(0)));
        s.says("55", "All is as by an IMAGE: the first, the second, the third", () -> {
            ShadowPager x = Checks.of(Texts.BASE);
            for (int i = 0; i < 3; i++) {
                x.device(1, 7, i + 1);
                x.load(i + 1);
                x.image();
            }
            x.unmap(1);
            for (int i : new int[] {2, 0, 1, 1}) {
                s.does(x, 1, y -> Sentences.bit(y.back(i)));
                c.due("word", i + 1, x.word(1, 7));
                c.due("root", i + 1, x.root());
                c.due("backing", 12, x.backing(1));
            }
        });
        s.says("55", "(all IMAGES stay)", () -> {
            ShadowPager x = busy();
            x.image();
            x.image();
            x.back(0);
            c.due("size(10)", 3, x.size(10));
            x.device(1, 7, 9);
            x.undo();
            x.device(1, 7, 8);
            c.due("back", true, x.back(2));
            c.due("size(10)", 3, x.size(10));
            c.due("no room", -1, x.image());
            c.due("trouble", 3, x.trouble());
        });
        s.says("III", "gone back to one, nothing can be undone", () -> {
            ShadowPager x = busy();
            x.back(0);
            c.due("size(9)", 0, x.size(9));
            c.due("undo", false, x.undo());
            c.due("trouble", 6, x.trouble());
            x.device(1, 7, 9);
            c.due("but what is done then", true, x.undo());
            c.due("undo", false, x.undo());
        });
    }

    // ---- promises 56 to 58

    private void ledThrows(ShadowPager x, int i) {
        boolean thrown = false;
        try {
            x.led(i);
        } catch (NoSuchElementException e) {
            thrown = true;
        }
        c.due("led(" + i + ") throws", true, thrown);
    }

    private void led() {
        s.says("56", "The i-th SHADOW TABLE, by numbers, that is free: of all, of some", () -> {
            ShadowPager x = Checks.of("machine pool 8 root 0;host 5 5 rw;word 0 0 263;word 1 0 1287");
            for (int i = 0; i < 8; i++) {
                c.due("led", i, x.led(i));
            }
            ledThrows(x, 8);
            x.access(0, false, false);
            for (int i = 0; i < 6; i++) {
                c.due("led", i + 2, x.led(i));
            }
            ledThrows(x, 6);
        });
        s.says("56", "NoSuchElementException if there is none such", () -> {
            for (int i : new int[] {-1, 3, 8, MIN, MAX}) {
                ledThrows(Checks.of(Texts.BASE), i);
            }
            for (int i : new int[] {-1, 0, 1, MIN, MAX}) {
                ledThrows(busy(), i);
                ledThrows(none(), i);
            }
        });
        s.says("56", "led tells no number: it may not be refused", () -> {
            s.leavesTrouble(told(Texts.BASE), x -> x.led(0));
            s.leavesTrouble(EdgesOfCallsTest::busy, x -> {
                ledThrows(x, 0);
                return 0;
            });
        });
    }

    private void size() {
        s.says("57", "each of the twelve", () -> {
            int[] due = {3, 4, 6, 6, 1, 2, 3, 1, 0, 3, 1, 20};
            ShadowPager x = busy();
            for (int what = 0; what < 12; what++) {
                c.due("size " + what, due[what], x.size(what));
            }
        });
        s.says("57", "NONE for others", () -> {
            for (int what : new int[] {-1, 12, 13, MIN, MAX}) {
                c.due("size", -1, busy().size(what));
                c.due("size without a machine", -1, none().size(what));
            }
        });
        s.says("57", "0 for what there isn't", () -> {
            ShadowPager x = none();
            for (int what = 0; what < 12; what++) {
                c.due("size " + what, 0, x.size(what));
            }
            x.feed(0, 0, 0, 0, 0);
            c.due("size 11", 20, x.size(11));
            ShadowPager y = Checks.of("machine pool 8 root 0");
            for (int what = 0; what < 12; what++) {
                c.due("size " + what, what == 0 ? 8 : 0, y.size(what));
            }
        });
        s.says("57", "FRAMES backed NOW", () -> {
            ShadowPager x = busy();
            x.unmap(2);
            c.due("size(1)", 3, x.size(1));
            x.give(0, 0, true);
            x.give(15, 31, false);
            c.due("size(1)", 5, x.size(1));
            x.undo();
            c.due("size(1)", 4, x.size(1));
        });
        s.says("57", "WORDS as told", () -> {
            ShadowPager x = busy();
            x.device(2, 2, 9);
            c.due("size(2)", 6, x.size(2));
        });
        s.says("57", "FAULTS of ACTS, TRAPS, TABLES DROPPED (those undone, too)", () -> {
            ShadowPager x = Checks.of(Texts.LEAVES + ";host 1 1 rw;word 1 1 263");
            x.image();
            x.store(1, 7, 0, false);
            x.access(8, false, false);
            x.access(16, false, false);
            x.access(63, false, false);
            int[] due = {4, 1, 1};
            for (int i = 0; i < 3; i++) {
                c.due("size", due[i], x.size(6 + i));
            }
            while (x.undo()) {
                c.due("undone", true, x.size(9) < 4);
            }
            for (int i = 0; i < 3; i++) {
                c.due("undone, too", due[i], x.size(6 + i));
            }
            x.back(0);
            for (int i = 0; i < 3; i++) {
                c.due("behind going back, too", due[i], x.size(6 + i));
            }
            x.sweep(0, 63);
            x.drawnFaults(1, 200);
            x.runDrops(3);
            for (int i = 0; i < 3; i++) {
                c.due("of acts alone", due[i], x.size(6 + i));
            }
        });
        s.says("57", "size tells no number: it may not be refused", () -> {
            s.leavesTrouble(EdgesOfCallsTest::busy, x -> x.size(0));
            s.leavesTrouble(EdgesOfCallsTest::busy, x -> x.size(12));
        });
    }

    private void trouble() {
        s.says("58", "0 it wasn't", () -> c.due("trouble", 0, busy().trouble()));
        s.says("58", "TROUBLE, each number, and told twice", () -> {
            ShadowPager x = busy();
            x.image();
            x.image();
            Sentences.Call[] calls = {y -> y.load(16), y -> y.machine(99), y -> y.image(), y -> y.machine(20), y -> y.unmap(0)};
            for (int i = 0; i < calls.length; i++) {
                c.due("refused", -1, calls[i].on(x));
                c.due("trouble", i + 1, x.trouble());
                c.due("trouble", i + 1, x.trouble());
            }
            x.back(0);
            c.due("trouble", 0, x.trouble());
            x.undo();
            c.due("trouble", 6, x.trouble());
        });
        s.says("58", "trouble tells no number itself", () -> s.leavesTrouble(EdgesOfCallsTest::busy, x -> x.trouble()));
        s.says("IV", "ABSENT, DENIED, GONE aren't refusals", () -> {
            int[] absent = {63, 1, 8};
            for (int i = 0; i < 3; i++) {
                int v = absent[i];
                long due = -2 - i;
                s.asks(EdgesOfCallsTest::busy, due, x -> x.look(v, true, false));
                s.does(EdgesOfCallsTest::busy, due, x -> x.access(v, true, false));
                s.does(EdgesOfCallsTest::busy, due, x -> x.store(v, 0, 0, false));
            }
        });
    }

    private void lastCall() {
        s.says("what it is", "An object is used for at most 512 calls", () -> {
            ShadowPager x = Checks.of(Texts.BASE);
            int made = (Texts.BASE.length() + 19) / 20 + 1;
            for (int call = made + 1; call < 512; call++) {
                x.access(0, true, true);
            }
            int accesses = 511 - made;
            c.due("the hits of all", accesses - 1, call512(accesses));
            c.due("the 512th", accesses, x.rate(true));
        });
    }

    private static long call512(int accesses) {
        ShadowPager x = Checks.of(Texts.BASE);
        for (int i = 0; i < accesses; i++) {
            x.access(0, true, true);
        }
        return x.rate(false);
    }

    private void everyPromise() {
        s.says("58", "each promise but those of the text has a test here", () -> {
            for (int n = 1; n <= 58; n++) {
                c.due("promise " + n, n < 2 || n > 5, s.has("" + n));
            }
        });
    }
}
