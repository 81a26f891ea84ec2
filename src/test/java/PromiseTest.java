import java.util.NoSuchElementException;

/** Each promise of the document, by its number: ordinary inputs, edges, and wrong inputs. */
public final class PromiseTest {
    private static final String BASE = Texts.BASE;
    private static final String LEAVES = Texts.LEAVES;
    private static final String SELF = Texts.SELF;
    private static final String ROOTED = Texts.ROOTED;
    private static final String PLAIN = Texts.PLAIN;
    private static final int[] FAR = {Integer.MIN_VALUE, -2, -1, Integer.MAX_VALUE};

    private final Checks c = new Checks();

    public static void main(String[] args) {
        PromiseTest t = new PromiseTest();
        t.newObject();
        t.feed();
        t.machine();
        t.faultsOfForm();
        t.faultsOfSense();
        t.goodTexts();
        t.where();
        t.guestAndHost();
        t.whatTablesSay();
        t.hardware();
        t.staleAndMissing();
        t.shadowTables();
        t.watching();
        t.dropping();
        t.largePages();
        t.runs();
        t.zeros();
        t.sweepsAndDraws();
        t.rate();
        t.unsureWords();
        t.unsureWithout();
        t.accesses();
        t.stores();
        t.trapsOfRoots();
        t.loads();
        t.flushes();
        t.devices();
        t.unmapsAndGives();
        t.protectsAndCleans();
        t.undoing();
        t.images();
        t.ledAndSize();
        t.trouble();
        t.orderOfRefusals();
        t.withoutMachine();
        t.farNumbers();
        t.c.end();
    }

    private static boolean ledThrows(ShadowPager x, int i) {
        try {
            x.led(i);
            return false;
        } catch (NoSuchElementException e) {
            return true;
        }
    }

    private void newObject() {
        c.part("promise 1");
        ShadowPager x = new ShadowPager();
        c.due("trouble", 0, x.trouble());
        c.due("fault", 0, x.fault());
        c.due("where", -1, x.where());
        for (int what = 0; what <= 11; what++) {
            c.due("size " + what, 0, x.size(what));
        }
        c.refused(x, "root", 1, x.root());
        c.refused(x, "word", 1, x.word(0, 0));
    }

    private void feed() {
        c.part("promise 2");
        ShadowPager x = new ShadowPager();
        c.refused(x, "undo", 6, x.undo());
        for (int i = 1; i <= 45; i++) {
            c.due("feed", 20 * i, x.feed(1, 2, 3, 4, 5));
        }
        c.due("feed", -1, x.feed(1, 2, 3, 4, 5));
        c.due("size 11", 900, x.size(11));
        c.due("a feed is no call that may be refused", 6, x.trouble());
        c.refused(x, "machine", 2, x.machine(901));
        c.refused(x, "machine", 4, x.machine(900));
        c.due("where", 0, x.where());
        c.due("feed", 20, x.feed(0x6d616368, 0x696e6520, 0x706f6f6c, 0x20332072, 0x6f6f7420));
        c.due("feed", 40, x.feed(0x35202020, 0xff808182, -1, 0, 0));
        c.told(x, "machine", 3, x.machine(21));
        c.told(x, "root", 5, x.root());
        // bytes above 127 begin no token, at their place
        Checks.feed(x, PLAIN + "\u00e9\u00ff");
        c.refused(x, "machine", 4, x.machine(23));
        c.due("where", 21, x.where());
    }

    private void machine() {
        c.part("promise 3");
        ShadowPager x = new ShadowPager();
        Checks.feed(x, "machine pool 8 root 12");
        c.refused(x, "machine", 2, x.machine(-1));
        c.refused(x, "machine", 2, x.machine(41));
        c.due("the tape stays", 40, x.size(11));
        c.told(x, "the first n bytes alone", 8, x.machine(21));
        c.due("the tape is empty then", 0, x.size(11));
        c.told(x, "root", 1, x.root());
        c.told(x, "machine", 3, Checks.read(x, BASE));
        x.access(0, true, false);
        x.access(0, true, false);
        x.image();
        Checks.feed(x, "machine pool 3 root 16");
        c.refused(x, "machine", 4, x.machine(22));
        c.due("where", 20, x.where());
        c.due("the tape is empty then", 0, x.size(11));
        c.told(x, "the machine stays", 10, x.hits(0, true, false));
        c.due("acts", 2, x.size(9));
        c.due("images", 1, x.size(10));
        c.told(x, "machine", 3, Checks.read(x, BASE));
        c.told(x, "no mark", 0, x.marks());
        c.told(x, "no table", -2, x.shadow(0, 0));
        c.told(x, "words as told", 519, x.word(1, 0));
        c.told(x, "rate", 0, x.rate(false));
        for (int what = 6; what <= 10; what++) {
            c.due("size " + what, 0, x.size(what));
        }
        c.refused(x, "undo", 6, x.undo());
        c.refused(x, "back", 1, x.back(0));
        c.told(x, "another machine", 8, Checks.read(x, "machine pool 8 root 3"));
        c.told(x, "nothing is left of the one before", 0, x.word(1, 0));
        c.told(x, "backing", -2, x.backing(2));
        c.due("runs", 0, x.size(3));
    }

    private void bad(String text, int number, int place) {
        ShadowPager x = new ShadowPager();
        c.refused(x, text, 4, Checks.read(x, text));
        c.due("fault of " + text, number, x.fault());
        c.due("where of " + text, place, x.where());
        c.due("no machine by " + text, 0, x.size(0));
    }

    private void bad(String ahead, String text, int number, int place) {
        bad(ahead + text, number, ahead.length() + place);
    }

    private void faultsOfForm() {
        c.part("promise 4, form");
        bad("", 1, 0);
        bad("   ", 1, 3);
        bad("machine pool 3", 1, 14);
        bad("machine pool 3   ", 1, 17);
        bad(PLAIN, ";", 1, 1);
        bad(PLAIN, " ; ", 1, 3);
        bad(PLAIN, ";;", 1, 1);
        bad(";", 1, 0);
        bad("Machine pool 3 root 0", 1, 0);
        bad("machine Pool 3 root 0", 1, 8);
        bad("machine\tpool 3 root 0", 1, 7);
        bad("machines pool 3 root 0", 1, 0);
        bad("machinepool 3 root 0", 1, 0);
        bad("machin", 1, 0);
        bad("machine root 0 pool 3", 1, 8);
        bad("machine pool root 0", 1, 13);
        bad("machine pool 12345 root 0", 1, 13);
        bad("machine pool 00003 root 0", 1, 13);
        bad("machine pool 3 rooted 0", 1, 15);
        bad("machine pool 3 root x", 1, 20);
        bad("machine pool 3 root -1", 1, 20);
        bad("3 machine pool 3 root 0", 1, 0);
        bad(PLAIN, " host 1 2 rw", 1, 1);
        bad(PLAIN, " 5", 1, 1);
        bad(PLAIN, ",", 1, 0);
        bad(PLAIN, ";hosts 1 2 rw", 1, 1);
        bad(PLAIN, ";rw", 1, 1);
        bad(PLAIN, ";host rw", 1, 6);
        bad(PLAIN, ";host 1 rw", 1, 8);
        bad(PLAIN, ";host 1 2 rwx", 1, 10);
        bad(PLAIN, ";host 1 2", 1, 9);
        bad(PLAIN, ";host 1 2 3", 1, 10);
        bad(PLAIN, ";word 1 2 x", 1, 10);
        bad(PLAIN, ";word 1 2 12345", 1, 10);
        bad(PLAIN, ";word 1 2 3 4", 1, 12);
        bad(PLAIN, ";run 1 wu", 1, 7);
        bad(PLAIN, ";run 1 2", 1, 7);
        bad(PLAIN, ";run 1", 1, 6);
        bad(PLAIN, ";unsure 1 2", 1, 11);
        bad(PLAIN, ";saw 1 r", 1, 8);
        bad(PLAIN, ";saw 1 r don", 1, 9);
        bad(PLAIN, ";saw 1 r doner", 1, 9);
        bad(PLAIN, ";abcdefghi", 1, 1);
        bad((PLAIN + " ".repeat(900)).substring(0, 893) + ";run 1 ", 1, 900);
        bad((PLAIN + " ".repeat(900)).substring(0, 899) + ";", 1, 900);
        bad("1".repeat(900), 1, 0);
        bad("m".repeat(900), 1, 0);
    }

    private void faultsOfSense() {
        c.part("promise 4, sense");
        bad(PLAIN, ";host 1 2 rw;host 1 3 rw", 3, 18);
        bad(PLAIN, ";host 1 2 rw;host 3 2 rw", 3, 20);
        bad(PLAIN, ";host 1 2 rw;host 1 99 rw", 3, 18);
        bad(PLAIN, ";word 1 2 3;word 2 2 3;word 1 2 3", 3, 30);
        bad(PLAIN, ";unsure 1 2 3;unsure 1 3 3;unsure 01 02 3", 3, 37);
        bad(PLAIN, ";saw 9 uw gone;saw 9 w gone;saw 9 uw done", 3, 34);
        bad(PLAIN, ";machine pool 3 root 0", 3, 1);
        bad("machine pool 2 root 0", 4, 13);
        bad("machine pool 9 root 0", 4, 13);
        bad("machine pool 3 root 16", 4, 20);
        bad(PLAIN, ";host 16 2 rw", 4, 6);
        bad(PLAIN, ";host 1 32 rw", 4, 8);
        bad(PLAIN, ";word 16 0 0", 4, 6);
        bad(PLAIN, ";word 1 8 0", 4, 8);
        bad(PLAIN, ";word 1 7 4096", 4, 10);
        bad(PLAIN, ";run 64 r", 4, 5);
        bad(PLAIN, ";unsure 15 0 0;unsure 16 0 0", 4, 22);
        bad(PLAIN, ";unsure 1 8 0", 4, 10);
        bad(PLAIN, ";unsure 1 7 9999", 4, 12);
        bad(PLAIN, ";saw 64 r done", 4, 5);
        String hosts = PLAIN + Texts.lines("host # # rw", 0, 16);
        bad(hosts, ";host 99 x", 5, 1);
        String words = PLAIN + Texts.mostWords();
        bad(words, ";word 3 0 0", 5, 1);
        bad(PLAIN + Texts.lines("run # r", 0, 10), ";run", 5, 1);
        bad(PLAIN + Texts.lines("unsure 1 # 9", 0, 4), "  ;  unsure", 5, 5);
        bad(PLAIN + Texts.lines("saw # r gone", 0, 6), ";saw 7 r gone", 5, 1);
        bad("host 1", 6, 0);
        bad("  word", 6, 2);
        bad("run x", 6, 0);
        bad("unsure 1 1 1;" + PLAIN, 6, 0);
        bad("saw 1 r done;" + PLAIN, 6, 0);
        bad("pool 3", 1, 0);
    }

    private void good(String text, int pool) {
        ShadowPager x = new ShadowPager();
        Checks.read(x, "host");
        c.due("fault", 6, x.fault());
        c.told(x, text, pool, Checks.read(x, text));
        c.due("fault of " + text, 0, x.fault());
        c.due("where of " + text, -1, x.where());
    }

    private void goodTexts() {
        c.part("promises 3 and 4, no fault");
        good("  machine   pool 0003 root 0015  ", 3);
        good("machine pool8root0", 8);
        good("machine pool 3 root 0;host1 2rw;word 0 7 4095;run63uw;unsure0 7 4095;saw63uw gone", 3);
        good(PLAIN + Texts.lines("host # # ro", 0, 16) + ";word 15 7 0 ; run 0 r", 3);
        good(PLAIN + Texts.mostWords(), 3);
        good(PLAIN + Texts.lines("run 5 r", 0, 10) + Texts.lines("unsure 1 # 9", 0, 4) + Texts.lines("saw # r gone", 0, 6), 3);
        good(PLAIN + ";word 1 1 1;unsure 1 1 1;saw 1 r done;saw 1 w done;saw 1 ur denied;saw 1 uw absent", 3);
        good(PLAIN + ";host 15 31 rw;host 0 0 ro", 3);
        String full = " ".repeat(900);
        good((PLAIN + full).substring(0, 891) + ";run 1 uw", 3);
        good((PLAIN + full).substring(0, 889) + ";word 1 2 3", 3);
        good((PLAIN + full).substring(0, 900), 3);
    }

    private void where() {
        c.part("promises 4 and 5");
        ShadowPager x = new ShadowPager();
        c.refused(x, "machine", 4, Checks.read(x, "machine pool 3 root 16"));
        c.due("where", 20, x.where());
        x.feed(1, 2, 3, 4, 5);
        x.size(0);
        ledThrows(x, 0);
        x.fault();
        c.due("where, calls between that can't be refused", 20, x.where());
        c.refused(x, "machine", 2, x.machine(21));
        c.due("fault, that stays by 2", 4, x.fault());
        c.refused(x, "stale", 1, x.stale());
        c.due("fault", 4, x.fault());
        c.refused(x, "machine", 4, x.machine(20));
        c.due("fault", 1, x.fault());
        c.due("where", 0, x.where());
        Checks.read(x, PLAIN);
        c.due("fault", 0, x.fault());
        c.due("where", -1, x.where());
        c.refused(x, "machine", 4, Checks.read(x, "run"));
        c.due("where", 0, x.where());
        x.root();
        c.due("where, behind a call that wasn't refused", -1, x.where());
        c.due("fault", 6, x.fault());
    }

    private void guestAndHost() {
        c.part("promises 6 to 11");
        ShadowPager x = Checks.of(BASE);
        c.told(x, "word", 263, x.word(0, 0));
        c.told(x, "word", 0, x.word(15, 7));
        c.told(x, "word of a frame that isn't backed", 2083, x.word(0, 1));
        c.refused(x, "word", 1, x.word(16, 0));
        c.refused(x, "word", 1, x.word(-1, 0));
        c.refused(x, "word", 1, x.word(0, 8));
        c.refused(x, "word", 1, x.word(0, -1));
        x.access(0, true, false);
        c.told(x, "word now", 519 + 24, x.word(1, 0));
        c.told(x, "backing", 10, x.backing(2));
        c.told(x, "backing", -2, x.backing(0));
        c.refused(x, "backing", 1, x.backing(16));
        c.refused(x, "backing", 1, x.backing(-1));
        c.told(x, "writes", 1, x.writes(2));
        c.told(x, "writes, ro", 0, x.writes(3));
        c.told(x, "writes, not backed", 0, x.writes(0));
        x.unmap(2);
        c.told(x, "writes, backed no more", 0, x.writes(2));
        c.refused(x, "writes", 1, x.writes(16));
        c.told(x, "root", 0, x.root());
        x.load(15);
        c.told(x, "root", 15, x.root());
        c.told(x, "marks", 4, x.marks());
        x.device(1, 7, 0);
        c.told(x, "marks", 6, x.marks());
        ShadowPager y = Checks.of("machine pool 3 root 0;word 5 0 63;word 5 1 21;word 5 3 31;word 5 7 192;word 5 6 4095");
        c.told(y, "wordsWith", 0b1001011, y.wordsWith(5, 1));
        c.told(y, "wordsWith", 0b1000001, y.wordsWith(5, 63));
        c.told(y, "wordsWith", 0b1001001, y.wordsWith(5, 24));
        c.told(y, "wordsWith", 0, y.wordsWith(6, 1));
        c.refused(y, "wordsWith", 1, y.wordsWith(16, 1));
        c.refused(y, "wordsWith", 2, y.wordsWith(5, 0));
        c.refused(y, "wordsWith", 2, y.wordsWith(5, 64));
        c.refused(y, "wordsWith", 2, y.wordsWith(5, -1));
    }

    private void whatTablesSay() {
        c.part("promises 12 to 17");
        ShadowPager x = Checks.of(BASE);
        c.told(x, "look", 10, x.look(0, true, true));
        c.told(x, "look, no WRITE nor USER in the root's word, large", -3, x.look(9, false, true));
        c.told(x, "look, ro", -3, x.look(1, true, false));
        c.told(x, "look, no WRITE", -3, x.look(3, true, false));
        c.told(x, "look, absent below", -2, x.look(4, true, true));
        c.told(x, "look, absent above", -2, x.look(63, false, false));
        c.told(x, "look, gone", -4, x.look(8, false, false));
        c.refused(x, "look", 1, x.look(64, false, false));
        c.refused(x, "look", 1, x.look(-1, false, false));
        ShadowPager y = Checks.of("machine pool 3 root 4;host 2 7 rw;host 10 9 ro;word 4 0 1;word 0 0 519;word 4 7 4007;word 4 6 1071"
                + ";word 4 5 1825;word 4 1 3;word 4 2 36;word 0 1 513;word 0 2 518");
        c.told(y, "denied above comes first", -3, y.look(3, true, false));
        c.told(y, "denied above", -3, y.look(0, false, true));
        c.told(y, "read", 7, y.look(0, false, false));
        c.told(y, "large from 8 on, gone comes ahead of ro", -4, y.look(57, true, true));
        c.told(y, "large from 8 on, ro", -3, y.look(58, true, true));
        c.told(y, "large from 8 on", 9, y.look(58, false, true));
        c.told(y, "large from 0 on", 7, y.look(50, true, true));
        c.told(y, "WRITE above alone", -3, y.look(9, true, false));
        c.told(y, "absent, with all else", -2, y.look(17, false, false));
        c.told(y, "absent below", -2, y.look(10, false, false));
        c.told(y, "leads", 2, y.leads(0));
        c.told(y, "leads, large", 15, y.leads(63));
        c.told(y, "leads, large", 0, y.leads(48));
        c.told(y, "leads, large, a frame of 7", 7, y.leads(47));
        c.told(y, "leads, absent above", -2, y.leads(16));
        c.told(y, "leads, absent below", -2, y.leads(2));
        c.refused(y, "leads", 1, y.leads(64));
        c.told(y, "rights", 1, y.rights(0));
        c.told(y, "rights", 5, y.rights(58));
        c.told(y, "rights", 15, y.rights(50));
        c.told(y, "rights", 0, y.rights(57));
        c.refused(y, "rights", 1, y.rights(-1));
        c.told(y, "large", 1, y.large(63));
        c.told(y, "large", 0, y.large(0));
        c.told(y, "large, not present", -2, y.large(17));
        c.refused(y, "large", 1, y.large(64));
        // 2 by pages 0, 1, 8, 9 and large by 42 and 50
        c.told(y, "aliases", 6, y.aliases(2));
        c.told(y, "aliases", 1, y.aliases(15));
        c.told(y, "aliases", 2, y.aliases(0));
        c.refused(y, "aliases", 1, y.aliases(16));
        c.told(y, "tables", 1, y.tables());
        c.told(x, "tables", 2, x.tables());
        ShadowPager z = Checks.of("machine pool 3 root 1;word 1 0 1;word 1 2 3841;word 1 3 3841;word 1 4 3840;word 0 1 32;word 0 0 33");
        c.told(z, "tables", 0x8001, z.tables());
        c.told(z, "LARGE below means nothing", 0, z.leads(0));
        c.told(z, "large", 0, z.large(0));
    }

    private void hardware() {
        c.part("promise 18");
        ShadowPager x = Checks.of(BASE);
        c.told(x, "hits", -2, x.hits(0, false, false));
        x.access(0, false, false);
        c.told(x, "hits", 10, x.hits(0, false, false));
        c.told(x, "hits as user", 10, x.hits(0, false, true));
        c.told(x, "no hit to write", -2, x.hits(0, true, false));
        c.told(x, "no hit beside", -2, x.hits(1, false, false));
        x.access(1, false, false);
        c.told(x, "hits", 11, x.hits(1, false, false));
        c.told(x, "no U below", -2, x.hits(1, false, true));
        x.access(9, true, false);
        c.told(x, "hits to write", 13, x.hits(9, true, false));
        c.told(x, "no U above", -2, x.hits(9, false, true));
        c.told(x, "hits() makes nothing", 0, x.hits(9, true, true) + 2);
        x.load(3);
        c.told(x, "no hit by another root", -2, x.hits(0, false, false));
        x.load(0);
        c.told(x, "hits again by the same", 10, x.hits(0, false, false));
        c.refused(x, "hits", 1, x.hits(64, false, false));
        c.refused(x, "hits", 1, x.hits(-1, true, true));
    }

    private ShadowPager outOfStep() {
        ShadowPager x = Checks.of(SELF);
        for (int v = 1; v <= 4; v++) {
            x.access(v, true, true);
        }
        c.told(x, "a trap", 11, x.store(0, 1, 0, false));
        c.told(x, "a hit", 11, x.store(0, 2, 1287, false));
        c.told(x, "a hit", 11, x.store(0, 3, 1283, false));
        c.told(x, "a hit", 11, x.store(0, 4, 1303, false));
        c.due("traps", 1, x.size(7));
        return x;
    }

    private void staleAndMissing() {
        c.part("promises 19 to 21");
        ShadowPager x = Checks.of(BASE);
        c.told(x, "stale", 0, x.stale());
        c.told(x, "staleAt", -2, x.staleAt());
        c.told(x, "missing", 13, x.missing());
        x.access(0, true, false);
        // page 0 in all modes is there then
        c.told(x, "missing", 9, x.missing());
        x = outOfStep();
        // page 1 is absent (4), page 2 leads elsewhere (4), page 3 is for no user (2)
        c.told(x, "stale", 10, x.stale());
        c.told(x, "staleAt", 1, x.staleAt());
        // page 2 leads to 5 by four modes, but what hits is not missing
        c.told(x, "missing", 0, x.missing());
        x.flush(1);
        c.told(x, "stale", 6, x.stale());
        c.told(x, "staleAt", 2, x.staleAt());
        x.load(0);
        c.told(x, "stale", 0, x.stale());
        c.told(x, "staleAt", -2, x.staleAt());
    }

    private void shadowTables() {
        c.part("promises 22 to 25");
        ShadowPager x = Checks.of(BASE);
        for (int what = 0; what < 6; what++) {
            c.told(x, "shadow of a free one", what < 2 ? -2 : 0, x.shadow(2, what));
        }
        c.refused(x, "shadow", 1, x.shadow(3, 0));
        c.refused(x, "shadow", 1, x.shadow(-1, 0));
        c.refused(x, "shadow", 1, x.shadow(0, 6));
        c.refused(x, "shadow", 1, x.shadow(0, -1));
        c.told(x, "entry of a free one", -2, x.entry(0, 0));
        c.refused(x, "entry", 1, x.entry(3, 0));
        c.refused(x, "entry", 1, x.entry(0, 8));
        c.refused(x, "entry", 1, x.entry(-1, 0));
        c.refused(x, "entry", 1, x.entry(0, -1));
        x.access(0, true, false);
        x.access(3, false, false);
        x.access(9, false, false);
        int[][] due = {{0, 0, 0, 3, 0, 0}, {1, 1, 0, 9, 1, 1}, {2, 8, 0, 2, 2, 1}};
        for (int n = 0; n < 3; n++) {
            for (int what = 0; what < 6; what++) {
                c.told(x, "shadow " + n + " " + what, due[n][what], x.shadow(n, what));
            }
        }
        c.told(x, "entry", 4 + 3, x.entry(0, 0));
        c.told(x, "entry, large and not dirty", 8, x.entry(0, 1));
        c.told(x, "entry", 8 + 3, x.entry(1, 0));
        c.told(x, "entry", 8 + 1, x.entry(1, 3));
        c.told(x, "entry, broken", 36 + 1, x.entry(2, 1));
        c.told(x, "entry", -2, x.entry(1, 1));
        c.told(x, "maps", 2, x.maps(2));
        c.told(x, "writers", 1, x.writers(2));
        c.told(x, "maps of a table's number, by no root", 0, x.maps(1));
        c.told(x, "maps", 1, x.maps(9));
        c.told(x, "writers", 0, x.writers(9));
        for (int f : new int[] {16, -1}) {
            c.refused(x, "maps", 1, x.maps(f));
            c.refused(x, "writers", 1, x.writers(f));
            c.refused(x, "watched", 1, x.watched(f));
        }
        ShadowPager y = Checks.of("machine pool 8 root 0;host 5 5 rw;word 0 0 263;word 0 3 257;word 1 0 1287;word 2 1 257");
        y.access(0, false, false);
        y.access(24, false, false);
        y.load(2);
        y.access(8, false, false);
        c.told(y, "three entries of two roots tell the leaf", 3, y.shadow(1, 5));
        c.told(y, "made ahead", 2, y.shadow(2, 4));
        c.told(y, "of which", 2, y.shadow(2, 1));
    }

    private void watching() {
        c.part("promises 26 and 27");
        ShadowPager x = Checks.of(SELF);
        c.told(x, "watched", 0, x.watched(0));
        // frame 1 is written ahead of its being a leaf's: pages of another root lead to it
        ShadowPager y = Checks.of("machine pool 3 root 0;host 1 11 rw;host 5 5 rw;word 0 0 547;word 0 1 263;word 1 0 1287");
        y.access(1, true, false);
        c.told(y, "writers", 1, y.writers(1));
        c.told(y, "watched", 0, y.watched(1));
        y.access(8, false, false);
        c.told(y, "watched", 1, y.watched(1));
        c.told(y, "maps of a frame that comes to be watched lose W", 0, y.writers(1));
        c.told(y, "but stay", 1, y.maps(1));
        c.told(y, "the broken one's frame isn't watched by it", 1, y.watched(0));
        y.load(8);
        c.told(y, "a root that isn't loaded is still watched", 1, y.watched(0));
        x.access(0, true, false);
        c.told(x, "watched, so no W", 4 + 1, x.entry(1, 0));
        c.told(x, "outOfStep", 0, x.outOfStep());
        x.store(0, 7, 0, false);
        c.told(x, "outOfStep", 2, x.outOfStep());
        c.told(x, "shadow", 1, x.shadow(1, 2));
        c.told(x, "watched", 0, x.watched(1));
        c.told(x, "the entry just told has W", 4 + 3, x.entry(1, 0));
        x.load(0);
        c.told(x, "outOfStep", 0, x.outOfStep());
        c.told(x, "watched", 1, x.watched(1));
    }

    private void dropping() {
        c.part("promise 28, tables made and dropped");
        ShadowPager x = Checks.of(LEAVES);
        c.told(x, "dropsNext", -2, x.dropsNext());
        x.access(0, false, false);
        x.access(8, false, false);
        c.told(x, "the root's own is spared", 1, x.dropsNext());
        x.access(0, true, false);
        c.told(x, "by when they were made, not used", 1, x.dropsNext());
        x.access(16, false, false);
        c.told(x, "dropped", 3, x.shadow(1, 1));
        c.due("drops", 1, x.size(8));
        c.told(x, "entries that told it", -2, x.entry(0, 0));
        c.told(x, "dropsNext", 2, x.dropsNext());
        c.told(x, "maps", 2, x.maps(5));
        c.told(x, "a frame of a dropped leaf isn't watched", 0, x.watched(1));
        x.load(6);
        c.told(x, "another root's is not spared", 0, x.dropsNext());
        x.load(0);
        c.told(x, "dropsNext", 2, x.dropsNext());
        ShadowPager y = Checks.of("machine pool 3 root 0;host 5 5 rw;word 0 0 263;word 0 1 519;word 1 0 1287;word 2 0 1287;word 3 0 263");
        y.access(0, false, false);
        y.access(8, false, false);
        y.load(3);
        y.access(0, false, false);
        // the new root takes the old one's number, its leaf is there
        c.told(y, "root", 3, y.shadow(0, 1));
        c.told(y, "entry", 4 + 3, y.entry(0, 0));
        c.due("drops", 1, y.size(8));
        c.told(y, "dropsNext", 1, y.dropsNext());
        y.load(0);
        y.access(8, false, false);
        // the root of 0 drops leaf 1, then leaf 2 is there
        c.told(y, "root", 0, y.shadow(1, 0));
        c.told(y, "leaf", 2, y.shadow(2, 1));
        c.due("drops", 2, y.size(8));
        y.load(3);
        y.access(0, false, false);
        // the root of 3 is there; leaf 1 drops leaf 2, the oldest
        c.told(y, "leaf", 1, y.shadow(2, 1));
        c.due("drops", 3, y.size(8));
    }

    private void largePages() {
        c.part("large pages");
        ShadowPager x = Checks.of("machine pool 3 root 0;host 3 3 rw;host 4 4 ro;word 0 0 103;word 0 1 1831;word 0 2 33");
        x.access(3, false, false);
        c.told(x, "the root's word is seen", 103 + 8, x.word(0, 0));
        c.told(x, "nothing else is", 0, x.word(0, 3));
        c.told(x, "entry", 4 + 1, x.entry(0, 0));
        c.told(x, "entry", 12 + 1, x.entry(1, 3));
        x.access(11, true, true);
        c.told(x, "the root's word is dirty", 1831 + 24, x.word(0, 1));
        c.told(x, "entry", 4 + 3, x.entry(0, 1));
        c.told(x, "one broken table for both", 12 + 3, x.entry(1, 3));
        c.told(x, "shadow", 2, x.shadow(1, 5));
        c.told(x, "W below, none above", -2, x.hits(3, true, false));
        c.told(x, "access", 3, x.access(3, true, false));
        c.told(x, "hits", 3, x.hits(3, true, true));
        c.told(x, "access", 4, x.access(4, false, false));
        c.told(x, "entry, ro", 16 + 1, x.entry(1, 4));
        c.told(x, "access for no user", 3, x.access(19, false, false));
        c.told(x, "entry above without U", 4, x.entry(0, 2));
        c.told(x, "entry below with U and W, as always", 12 + 3, x.entry(1, 3));
        c.told(x, "hits", -2, x.hits(19, false, true));
    }

    private void runs() {
        c.part("promises 29 to 32");
        ShadowPager x = Checks.of(LEAVES);
        int[] faults = {6, 6, 4, 4, 4, 4};
        int[] drops = {4, 3, 0, 0, 0, 0};
        for (int pool = 3; pool <= 8; pool++) {
            c.told(x, "runFaults " + pool, faults[pool - 3], x.runFaults(pool));
            c.told(x, "runDrops " + pool, drops[pool - 3], x.runDrops(pool));
            c.told(x, "runRefused " + pool, 0, x.runRefused(pool));
        }
        c.told(x, "poolFor", 3, x.poolFor(10));
        c.told(x, "poolFor", 3, x.poolFor(6));
        c.told(x, "poolFor", 5, x.poolFor(5));
        c.told(x, "poolFor", 5, x.poolFor(4));
        c.told(x, "poolFor", -2, x.poolFor(3));
        c.told(x, "poolFor", -2, x.poolFor(0));
        c.refused(x, "poolFor", 2, x.poolFor(11));
        c.refused(x, "poolFor", 2, x.poolFor(-1));
        for (int pool : new int[] {2, 9, -3}) {
            c.refused(x, "runFaults", 2, x.runFaults(pool));
            c.refused(x, "runRefused", 2, x.runRefused(pool));
            c.refused(x, "runDrops", 2, x.runDrops(pool));
        }
        c.told(x, "nothing came of it", -2, x.shadow(0, 0));
        c.due("faults of acts", 0, x.size(6));
        x.unmap(5);
        x.device(6, 0, 1);
        x.load(6);
        c.told(x, "a run is from the beginning on", 6, x.runFaults(3));
        c.told(x, "a run is from the beginning on", 0, x.runRefused(3));
        ShadowPager y = Checks.of(BASE);
        c.told(y, "runFaults", 6, y.runFaults(3));
        c.told(y, "runRefused", 2, y.runRefused(3));
        c.told(y, "runDrops", 0, y.runDrops(3));
        ShadowPager z = Checks.of("machine pool 3 root 0;host 5 5 rw;word 0 0 263;word 1 0 1287;run 0 w;run 0 r;run 0 uw;run 1 r");
        c.told(z, "runFaults", 2, z.runFaults(3));
        c.told(z, "a hit isn't refused", 1, z.runRefused(3));
        c.told(z, "poolFor", 3, z.poolFor(2));
        c.told(z, "poolFor", -2, z.poolFor(1));
        ShadowPager w = Checks.of("machine pool 3 root 0;host 15 0 ro" + Texts.sevenLeaves()
                + Texts.lines("run 0 r;run 8 r;run 16 r", 0, 1) + ";run 24 r;run 32 r;run 40 r;run 48 r;run 0 r;run 8 ur;run 16 r");
        c.told(w, "runFaults", 10, w.runFaults(7));
        c.told(w, "runFaults", 7, w.runFaults(8));
        c.told(w, "runDrops", 4, w.runDrops(7));
        c.told(w, "runDrops", 0, w.runDrops(8));
        c.told(w, "poolFor", 8, w.poolFor(9));
        c.told(w, "poolFor", 8, w.poolFor(7));
        c.told(w, "poolFor", -2, w.poolFor(6));
    }

    /** Frame 0, host frame 0, page 0, table 0 and an entry that is 0 are as good as others. */
    private void zeros() {
        c.part("zeros");
        ShadowPager x = Checks.of("machine pool 3 root 1;host 0 0 rw;host 2 2 rw;word 1 0 513;word 2 0 1;word 1 1 519;word 2 1 519;"
                + "run 0 r;run 0 r;unsure 2 0 0;saw 0 r done;saw 0 w denied");
        c.told(x, "look", 0, x.look(0, false, false));
        c.told(x, "leads", 0, x.leads(0));
        c.told(x, "rights", 1, x.rights(0));
        c.told(x, "missing", 7, x.missing());
        c.told(x, "runFaults", 1, x.runFaults(3));
        c.told(x, "runRefused", 0, x.runRefused(3));
        c.told(x, "fits", 1, x.fits());
        c.told(x, "judge", -2, x.judge());
        c.told(x, "access", 0, x.access(0, false, false));
        c.told(x, "hits", 0, x.hits(0, false, false));
        c.told(x, "entry", 0, x.entry(1, 0));
        c.told(x, "entries there", 1, x.shadow(1, 3));
        c.told(x, "maps", 1, x.maps(0));
        c.told(x, "missing", 6, x.missing());
        c.told(x, "access", 0, x.access(0, false, false));
        c.told(x, "rate", 2, x.rate(true));
        c.told(x, "sweep", 0, x.sweep(0, 0));
        c.told(x, "trap", 2, x.store(9, 0, 0, false));
        c.told(x, "stale, pages 0 and 8 by one mode each", 2, x.stale());
        c.told(x, "staleAt", 0, x.staleAt());
        c.told(x, "load", 1, x.load(1));
        c.told(x, "entry", -2, x.entry(1, 0));
        x.device(2, 0, 1);
        c.told(x, "access", 0, x.access(0, false, false));
        c.told(x, "device", 1, x.device(2, 0, 1));
        c.told(x, "access", 0, x.access(0, false, false));
        c.told(x, "flush", 1, x.flush(0));
        c.told(x, "access", 0, x.access(0, false, false));
        c.told(x, "unmap", 1, x.unmap(0));
        c.told(x, "give", true, x.give(0, 0, true));
        c.refused(x, "a give of 0 to another", 5, x.give(3, 0, true));
        c.due("backed", 2, x.size(1));
        // a leaf as table 0: the root made first is dropped by a root of another frame
        ShadowPager y = Checks.of(LEAVES + ";word 7 0 7;word 7 7 1799;word 0 7 1799;host 7 7 rw;host 0 3 rw");
        y.access(0, false, false);
        y.access(8, false, false);
        y.load(7);
        c.told(y, "access", 3, y.access(7 * 8, true, true));
        c.told(y, "root", 7, y.shadow(0, 1));
    }

    private void sweepsAndDraws() {
        c.part("promises 33 to 35");
        ShadowPager x = Checks.of(LEAVES);
        c.told(x, "sweep", 25, x.sweep(0, 24));
        c.told(x, "sweep", 64, x.sweep(0, 63));
        c.told(x, "sweep", 1, x.sweep(63, 63));
        x.access(0, false, false);
        c.told(x, "from now on", 0, x.sweep(0, 0));
        c.told(x, "from now on", 1, x.sweep(0, 1));
        c.due("faults of acts", 1, x.size(6));
        c.due("acts", 1, x.size(9));
        c.told(x, "a sweep leaves nothing", -2, x.shadow(2, 0));
        c.refused(x, "sweep", 2, x.sweep(1, 0));
        c.refused(x, "sweep", 1, x.sweep(0, 64));
        c.refused(x, "sweep", 1, x.sweep(-1, 0));
        // seed 0: 74 (page 10), 5624 (r); seed 1: 149 (page 21), 11249 (w)
        ShadowPager y = Checks.of("machine pool 3 root 0;host 5 5 rw;host 6 6 rw;word 0 1 263;word 0 2 263;word 1 2 1287;word 1 5 1543");
        c.told(y, "drawnFaults", 1, y.drawnFaults(0, 1));
        y.access(10, false, false);
        c.told(y, "drawnFaults", 0, y.drawnFaults(0, 1));
        c.told(y, "drawnFaults", 1, y.drawnFaults(0, 2));
        c.told(y, "drawnMarks", 0, y.drawnMarks(0, 1));
        c.told(y, "drawnMarks", 64, y.drawnMarks(1, 1));
        c.told(y, "drawnMarks", 0, y.drawnMarks(1, 0));
        c.told(y, "nothing came of it", 0, y.marks());
        y.access(10, true, false);
        c.told(y, "with those now", 96, y.drawnMarks(1, 1));
        c.told(y, "drawnFaults", 0, y.drawnFaults(65536, 0));
        // seed 1 goes on: 57305 (page 25), 38044 (r); then 35283 (page 19), 24819 (uw)
        ShadowPager z = Checks.of("machine pool 3 root 0;host 5 5 rw;host 6 6 rw;word 0 2 263;word 0 3 263;word 1 1 1287;word 1 3 1543");
        c.told(z, "drawnFaults", 3, z.drawnFaults(1, 3));
        c.told(z, "drawnMarks", 64, z.drawnMarks(1, 3));
        c.told(z, "drawnMarks", 0, z.drawnMarks(1, 2));
        z.access(25, false, false);
        c.told(z, "drawnFaults", 1, z.drawnFaults(1, 2));
        // seed 65,536: 75 * 65536 + 74 = 65536 mod 65537, a seed that stays: page 0, r
        c.told(y, "drawnFaults", 200, y.drawnFaults(65536, 200));
        for (int seed : new int[] {-1, 65537}) {
            c.refused(y, "drawnFaults", 2, y.drawnFaults(seed, 1));
            c.refused(y, "drawnMarks", 2, y.drawnMarks(seed, 1));
        }
        for (int n : new int[] {-1, 201}) {
            c.refused(y, "drawnFaults", 2, y.drawnFaults(1, n));
            c.refused(y, "drawnMarks", 2, y.drawnMarks(1, n));
        }
    }

    private void rate() {
        c.part("promise 36");
        ShadowPager x = Checks.of(BASE);
        c.told(x, "rate", 0, x.rate(false));
        c.told(x, "rate", 1, x.rate(true));
        x.access(0, true, false);
        x.access(64, true, false);
        c.told(x, "rate, 0 of 1", 0, x.rate(false));
        c.told(x, "rate, 0 of 1", 1, x.rate(true));
        x.access(0, true, false);
        c.told(x, "rate, 1 of 2", 1, x.rate(false));
        c.told(x, "rate, 1 of 2", 2, x.rate(true));
        x.store(0, 0, 1, false);
        x.access(63, false, false);
        c.told(x, "rate, 2 of 4", 1, x.rate(false));
        c.told(x, "rate, 2 of 4", 2, x.rate(true));
        x.undo();
        x.undo();
        x.undo();
        x.undo();
        c.told(x, "those undone, too", 2, x.rate(true));
        x.access(63, false, false);
        c.told(x, "rate, 2 of 5", 2, x.rate(false));
        c.told(x, "rate, 2 of 5", 5, x.rate(true));
        x.sweep(0, 63);
        x.flush(0);
        c.told(x, "acts alone", 5, x.rate(true));
    }

    private void unsureWords() {
        c.part("promises 37 to 43");
        String text = "machine pool 3 root 0;host 5 5 rw;host 6 6 ro;word 0 0 263;word 1 0 1281;"
                + "unsure 1 0 1283;unsure 1 1 1537;unsure 0 0 0;saw 0 r done";
        ShadowPager x = Checks.of(text);
        c.told(x, "fits", 4, x.fits());
        for (int i = 0; i < 4; i++) {
            c.told(x, "fitAt", i, x.fitAt(i));
        }
        c.refused(x, "fitAt", 1, x.fitAt(4));
        c.refused(x, "fitAt", 1, x.fitAt(-1));
        c.told(x, "could", 3, x.could());
        c.told(x, "surely", 0, x.surely());
        c.told(x, "ask", 0, x.ask());
        c.told(x, "askLeaves", 2, x.askLeaves());
        c.told(x, "judge", -2, x.judge());
        ShadowPager y = Checks.of(text + ";saw 0 w done");
        c.told(y, "fits", 2, y.fits());
        c.told(y, "fitAt", 1, y.fitAt(0));
        c.told(y, "fitAt", 3, y.fitAt(1));
        c.told(y, "could", 3, y.could());
        c.told(y, "surely", 1, y.surely());
        c.told(y, "ask", 1, y.ask());
        c.told(y, "askLeaves", 1, y.askLeaves());
        c.told(y, "judge", 1, y.judge());
        y.unmap(5);
        y.device(6, 0, 0);
        y.load(6);
        c.told(y, "as at first", 2, y.fits());
        c.told(y, "as at first", 1, y.judge());
        ShadowPager z = Checks.of(text + ";saw 1 w denied;saw 2 r absent");
        c.told(z, "fits", 2, z.fits());
        c.told(z, "surely", 2, z.surely());
        c.told(z, "ask", 0, z.ask());
        c.told(z, "judge", 1, z.judge());
        ShadowPager g = Checks.of(text + ";unsure 1 2 1793;saw 2 r gone");
        c.told(g, "fits", 4, g.fits());
        c.told(g, "fitAt", 8, g.fitAt(0));
        c.told(g, "fitAt", 11, g.fitAt(3));
        c.told(g, "surely", 8, g.surely());
        c.told(g, "could", 11, g.could());
    }

    private void unsureWithout() {
        c.part("promises 37 to 43, without");
        ShadowPager x = Checks.of(PLAIN + ";unsure 0 0 1;saw 0 r gone;saw 0 w gone");
        c.told(x, "no fits", 0, x.fits());
        c.refused(x, "fitAt", 1, x.fitAt(0));
        c.told(x, "could", 0, x.could());
        c.told(x, "surely", 0, x.surely());
        c.told(x, "ask", -2, x.ask());
        c.told(x, "askLeaves", -2, x.askLeaves());
        c.told(x, "judge", 0, x.judge());
        ShadowPager y = Checks.of(PLAIN);
        c.told(y, "the empty set", 1, y.fits());
        c.told(y, "fitAt", 0, y.fitAt(0));
        c.told(y, "ask", -2, y.ask());
        c.told(y, "askLeaves", -2, y.askLeaves());
        c.told(y, "judge", -2, y.judge());
        ShadowPager z = Checks.of(PLAIN + ";saw 0 r done");
        c.told(z, "no set", 0, z.fits());
        c.told(z, "judge", 0, z.judge());
        ShadowPager a = Checks.of(PLAIN + Texts.lines("unsure 0 # 1", 0, 4));
        c.told(a, "all sets", 16, a.fits());
        c.told(a, "fitAt", 15, a.fitAt(15));
        c.refused(a, "fitAt", 1, a.fitAt(16));
        c.told(a, "askLeaves", 8, a.askLeaves());
    }

    private void accesses() {
        c.part("promise 44");
        ShadowPager x = Checks.of(BASE);
        c.told(x, "absent", -2, x.access(16, false, false));
        c.told(x, "denied", -3, x.access(1, true, false));
        c.told(x, "gone", -4, x.access(8, false, false));
        c.told(x, "nothing else is done", -2, x.shadow(0, 0));
        c.told(x, "nothing else is done", 263, x.word(0, 0));
        c.due("faults", 3, x.size(6));
        c.due("acts, whatever comes of them", 3, x.size(9));
        c.refused(x, "access", 1, x.access(64, false, false));
        c.refused(x, "access", 1, x.access(-1, false, false));
        c.due("a refused one is none", 3, x.size(9));
        c.told(x, "access", 10, x.access(3, false, true));
        c.told(x, "both words seen", 263 + 8, x.word(0, 0));
        c.told(x, "both words seen", 517 + 8, x.word(1, 3));
        c.told(x, "no mark by reading", 0, x.marks());
        c.told(x, "access", 10, x.access(0, true, true));
        c.told(x, "the last dirty, not the first", 263 + 8, x.word(0, 0));
        c.told(x, "the last dirty", 519 + 24, x.word(1, 0));
        c.told(x, "mark", 4, x.marks());
        c.told(x, "page 3 has no WRITE", 8 + 1, x.entry(1, 3));
        x.access(0, false, false);
        c.due("a hit is no fault", 5, x.size(6));
        ShadowPager y = Checks.of("machine pool 3 root 0;host 0 3 rw;word 0 0 7;word 0 1 23;word 0 2 2071;host 8 8 rw");
        c.told(y, "one word for both", 3, y.access(0, true, false));
        c.told(y, "word", 7 + 24, y.word(0, 0));
        c.told(y, "root", 4 + 3, y.entry(0, 0));
        c.told(y, "a watched frame", 1, y.entry(1, 0));
        c.told(y, "a dirty word, the frame without its mark", 8, y.access(2, false, false));
        c.told(y, "entry", 32 + 1, y.entry(1, 2));
        y.device(8, 0, 0);
        c.told(y, "a mark alone brings no W", 32 + 1, y.entry(1, 2));
        c.told(y, "no hit", -2, y.hits(2, true, false));
        c.told(y, "hit", 8, y.access(2, false, false));
        c.told(y, "a hit changes nothing", 32 + 1, y.entry(1, 2));
        y.flush(2);
        y.access(2, false, false);
        c.told(y, "dirty, marked, rw: W by reading", 32 + 3, y.entry(1, 2));
    }

    private void stores() {
        c.part("promise 45");
        ShadowPager x = Checks.of(BASE);
        c.refused(x, "store", 1, x.store(64, 0, 0, false));
        c.refused(x, "store", 1, x.store(0, 8, 0, false));
        c.refused(x, "store", 1, x.store(0, -1, 0, false));
        c.refused(x, "store", 2, x.store(0, 0, 4096, false));
        c.refused(x, "store", 2, x.store(0, 0, -1, false));
        c.due("none was an act", 0, x.size(9));
        c.told(x, "absent", -2, x.store(4, 0, 1, false));
        c.told(x, "denied", -3, x.store(1, 0, 1, false));
        c.told(x, "denied as user", -3, x.store(9, 0, 1, true));
        c.told(x, "gone", -4, x.store(8, 0, 1, false));
        c.told(x, "store behind a fault", 10, x.store(0, 7, 4095, true));
        c.told(x, "word", 4095, x.word(2, 7));
        c.due("no trap", 0, x.size(7));
        c.due("faults", 5, x.size(6));
        c.told(x, "store by a hit", 10, x.store(0, 6, 77, false));
        c.told(x, "word", 77, x.word(2, 6));
        c.due("faults", 5, x.size(6));
        c.told(x, "mark", 4, x.marks());
        c.told(x, "a trap", 12, x.store(2, 0, 0, false));
        c.due("traps", 1, x.size(7));
        c.told(x, "out of step", 2, x.outOfStep());
        c.told(x, "a stale hit writes where the entry says", 10, x.store(0, 5, 55, false));
        c.told(x, "word", 55, x.word(2, 5));
        c.told(x, "stale", 4, x.stale());
        ShadowPager y = Checks.of(SELF);
        // page 0 writes its own word; the entry just told has W all the same
        c.told(y, "store", 11, y.store(0, 0, 0, false));
        c.told(y, "word", 0, y.word(1, 0));
        c.told(y, "entry", 4 + 3, y.entry(1, 0));
        c.told(y, "stale", 4, y.stale());
        c.told(y, "by a hit", 11, y.store(0, 1, 9, true));
        c.told(y, "word", 9, y.word(1, 1));
        ShadowPager z = Checks.of(SELF);
        z.access(0, true, false);
        z.store(0, 7, 0, false);
        c.told(z, "a leaf out of step is one: no other is made", 5, z.access(1, true, false));
        c.told(z, "entry", 20 + 3, z.entry(1, 1));
        c.told(z, "free", -2, z.shadow(2, 0));
    }

    private void trapsOfRoots() {
        c.part("promise 45, roots");
        ShadowPager x = Checks.of(ROOTED);
        c.told(x, "store", 20, x.store(0, 3, 519, false));
        c.told(x, "word", 519, x.word(0, 3));
        c.due("traps", 1, x.size(7));
        c.told(x, "entry at another place stays", 4 + 3, x.entry(0, 0));
        c.told(x, "a root is watched still: no W", 1, x.entry(1, 0));
        c.told(x, "no leaf of it", 0, x.outOfStep());
        c.told(x, "store", 20, x.store(0, 0, 263, false));
        c.due("traps", 2, x.size(7));
        c.told(x, "the entry just told, too", -2, x.entry(0, 0));
        c.told(x, "the leaf's stays", 1, x.entry(1, 0));
        c.told(x, "hits", -2, x.hits(0, false, false));
        ShadowPager y = Checks.of("machine pool 3 root 0;host 0 3 rw;word 0 0 7;word 0 1 7");
        // root and leaf of frame 0
        c.told(y, "store", 3, y.store(0, 1, 7, false));
        c.told(y, "out of step", 2, y.outOfStep());
        c.told(y, "watched by its root", 1, y.watched(0));
        c.told(y, "no W", 1, y.entry(1, 0));
        c.told(y, "store", 3, y.store(0, 1, 7, false));
        c.due("each is a trap", 2, y.size(7));
    }

    private void loads() {
        c.part("promise 46");
        ShadowPager x = outOfStep();
        c.told(x, "load", 1, x.load(0));
        c.told(x, "not present", -2, x.entry(1, 1));
        c.told(x, "another frame", -2, x.entry(1, 2));
        c.told(x, "no USER, not DIRTY", 20, x.entry(1, 3));
        c.told(x, "as it was", 20 + 3, x.entry(1, 4));
        c.told(x, "watched again", 4 + 1, x.entry(1, 0));
        c.told(x, "load", 0, x.load(0));
        c.told(x, "entry", 20 + 3, x.entry(1, 4));
        c.told(x, "root's entry stays", 4 + 3, x.entry(0, 0));
        c.refused(x, "load", 1, x.load(16));
        c.refused(x, "load", 1, x.load(-1));
        c.told(x, "load", 0, x.load(15));
        c.told(x, "root", 15, x.root());
        c.told(x, "its tables stay", 0, x.shadow(0, 0));
        ShadowPager y = outOfStep();
        c.told(y, "of another root, too", 1, y.load(9));
        c.told(y, "entry", 20, y.entry(1, 3));
        // WRITE without DIRTY, DIRTY without WRITE
        ShadowPager z = Checks.of(SELF);
        z.access(1, true, true);
        z.access(3, true, true);
        z.store(0, 1, 1285 + 16, false);
        z.store(0, 3, 1287, false);
        z.load(0);
        c.told(z, "lacks WRITE", 20 + 1, z.entry(1, 1));
        c.told(z, "lacks DIRTY", 20 + 1, z.entry(1, 3));
    }

    private void flushes() {
        c.part("promise 47");
        ShadowPager x = Checks.of(BASE);
        c.told(x, "flush, no tables", 0, x.flush(0));
        x.access(0, false, false);
        c.told(x, "flush beside", 0, x.flush(1));
        c.told(x, "flush elsewhere", 0, x.flush(9));
        c.told(x, "flush", 1, x.flush(0));
        c.told(x, "flush", 0, x.flush(0));
        c.told(x, "the root's entry stays", 4 + 3, x.entry(0, 0));
        c.told(x, "hits", -2, x.hits(0, false, false));
        c.due("each is an act", 6, x.size(9));
        c.refused(x, "flush", 1, x.flush(64));
        c.refused(x, "flush", 1, x.flush(-1));
        x.access(0, false, false);
        x.load(3);
        c.told(x, "by the root that is loaded", 0, x.flush(0));
        ShadowPager y = outOfStep();
        c.told(y, "flush", 1, y.flush(1));
        c.told(y, "a flush brings no leaf back", 2, y.outOfStep());
    }

    private void devices() {
        c.part("promise 48");
        ShadowPager x = Checks.of("machine pool 3 root 0;host 0 3 ro;host 4 4 rw;word 0 0 7;word 0 1 7");
        x.access(0, false, false);
        x.access(1, false, false);
        c.told(x, "device at root and leaf", 2, x.device(0, 0, 4095));
        c.told(x, "word", 4095, x.word(0, 0));
        c.told(x, "mark, ro no matter", 1, x.marks());
        c.told(x, "entry", -2, x.entry(0, 0));
        c.told(x, "entry", -2, x.entry(1, 0));
        c.told(x, "the others stay", 2, x.shadow(1, 3));
        c.told(x, "device", 0, x.device(0, 0, 7));
        c.told(x, "device of a frame without tables", 0, x.device(4, 1, 5));
        c.told(x, "marks", 17, x.marks());
        c.due("no fault, no trap", 0, x.size(7));
        c.refused(x, "device", 1, x.device(16, 0, 0));
        c.refused(x, "device", 1, x.device(0, 8, 0));
        c.refused(x, "device", 1, x.device(0, -1, 0));
        c.refused(x, "device", 2, x.device(0, 0, 4096));
        c.refused(x, "device", 2, x.device(0, 0, -1));
        c.refused(x, "device", 5, x.device(5, 0, 0));
        c.due("acts", 5, x.size(9));
        ShadowPager y = outOfStep();
        c.told(y, "a leaf out of step keeps its entry", 0, y.device(1, 4, 0));
        c.told(y, "entry", 20 + 3, y.entry(1, 4));
        c.told(y, "word", 0, y.word(1, 4));
    }

    private void unmapsAndGives() {
        c.part("promises 49 and 50");
        ShadowPager x = Checks.of(BASE);
        x.access(0, true, false);
        x.access(3, false, false);
        c.told(x, "unmap", 2, x.unmap(2));
        c.told(x, "maps", 0, x.maps(2));
        c.told(x, "backing", -2, x.backing(2));
        c.told(x, "its mark stays", 4, x.marks());
        c.told(x, "look", -4, x.look(0, false, false));
        c.told(x, "unmap, ro", 0, x.unmap(3));
        c.refused(x, "unmap", 5, x.unmap(3));
        c.refused(x, "unmap", 1, x.unmap(16));
        c.refused(x, "unmap", 1, x.unmap(-1));
        c.refused(x, "give", 1, x.give(16, 0, true));
        c.refused(x, "give", 1, x.give(-1, 0, true));
        c.refused(x, "give", 2, x.give(2, 32, true));
        c.refused(x, "give", 2, x.give(2, -1, true));
        c.refused(x, "give, that backs another one", 5, x.give(2, 12, true));
        c.refused(x, "give, it is backed", 5, x.give(1, 30, true));
        c.refused(x, "give, it is backed by that", 5, x.give(1, 12, true));
        c.due("acts", 4, x.size(9));
        c.told(x, "give", true, x.give(2, 31, false));
        c.told(x, "backing", 31, x.backing(2));
        c.told(x, "writes", 0, x.writes(2));
        c.told(x, "its mark is not set", 0, x.marks());
        c.told(x, "look", -3, x.look(0, true, false));
        c.told(x, "give", true, x.give(3, 0, true));
        c.told(x, "writes", 1, x.writes(3));
        c.told(x, "a host frame that came free", true, x.give(4, 10, true));
        c.due("backed", 5, x.size(1));
        ShadowPager y = Checks.of("machine pool 3 root 0;host 3 3 rw;word 0 0 39;word 0 1 263;word 1 0 775");
        y.access(3, true, false);
        y.access(8, true, false);
        c.told(y, "maps of leaves and broken ones", 2, y.unmap(3));
    }

    private void protectsAndCleans() {
        c.part("promises 51 and 52");
        ShadowPager x = Checks.of("machine pool 3 root 0;host 3 3 rw;host 4 4 ro;word 0 0 39;word 0 1 263;word 1 0 775;word 1 1 773");
        x.access(3, true, false);
        x.access(8, true, false);
        x.access(9, false, false);
        c.told(x, "maps", 3, x.maps(3));
        c.told(x, "protect", 2, x.protect(3));
        c.told(x, "maps", 3, x.maps(3));
        c.told(x, "writers", 0, x.writers(3));
        c.told(x, "writes", 0, x.writes(3));
        c.told(x, "look", -3, x.look(8, true, false));
        c.told(x, "mark stays", 8, x.marks());
        c.refused(x, "protect, ro", 5, x.protect(3));
        c.refused(x, "protect, ro", 5, x.protect(4));
        c.refused(x, "protect, not backed", 5, x.protect(5));
        c.refused(x, "protect", 1, x.protect(16));
        c.refused(x, "protect", 1, x.protect(-1));
        x.undo();
        c.told(x, "writers", 2, x.writers(3));
        c.told(x, "clean", 1, x.clean(3));
        c.told(x, "writers", 0, x.writers(3));
        c.told(x, "marks", 0, x.marks());
        c.told(x, "rw still", 1, x.writes(3));
        c.told(x, "clean", 0, x.clean(3));
        c.told(x, "clean, not backed", 0, x.clean(15));
        c.refused(x, "clean", 1, x.clean(16));
        c.refused(x, "clean", 1, x.clean(-1));
        c.due("acts", 6, x.size(9));
        c.told(x, "no hit to write", -2, x.hits(8, true, false));
        x.access(9, false, false);
        c.told(x, "writes again", 3, x.access(8, true, false));
        c.told(x, "the mark is back", 8, x.marks());
        ShadowPager y = Checks.of(ROOTED + ";word 1 2 1287");
        y.device(5, 0, 0);
        c.told(y, "protect", 0, y.protect(5));
        c.told(y, "unmap leaves a mark", 0, y.unmap(5));
        c.told(y, "clean of a frame that isn't backed", 1, y.clean(5));
    }

    private void undoing() {
        c.part("promise 53");
        ShadowPager x = Checks.of(BASE);
        c.refused(x, "undo", 6, x.undo());
        x.access(0, true, false);
        x.load(1);
        x.give(5, 5, true);
        x.unmap(2);
        c.told(x, "undo unmap", true, x.undo());
        c.told(x, "backing", 10, x.backing(2));
        c.told(x, "writers", 1, x.writers(2));
        c.told(x, "undo give", true, x.undo());
        c.told(x, "backing", -2, x.backing(5));
        c.told(x, "undo load", true, x.undo());
        c.told(x, "root", 0, x.root());
        c.told(x, "undo access", true, x.undo());
        c.told(x, "words", 519, x.word(1, 0));
        c.told(x, "tables", -2, x.shadow(0, 0));
        c.told(x, "marks", 0, x.marks());
        c.due("faults stay", 1, x.size(6));
        c.refused(x, "undo", 6, x.undo());
        for (int i = 0; i < 20; i++) {
            x.device(1, 7, i);
        }
        c.due("16 are kept", 16, x.size(9));
        for (int i = 0; i < 16; i++) {
            c.told(x, "undo", true, x.undo());
            c.told(x, "word", 18 - i, x.word(1, 7));
        }
        c.refused(x, "undo", 6, x.undo());
        c.told(x, "word", 3, x.word(1, 7));
        ShadowPager y = outOfStep();
        y.load(0);
        y.undo();
        c.told(y, "out of step again", 2, y.outOfStep());
        c.told(y, "entry", 20 + 3, y.entry(1, 1));
        ShadowPager z = Checks.of(LEAVES);
        z.access(0, false, false);
        z.access(8, false, false);
        z.access(16, false, false);
        z.undo();
        c.told(z, "a table is back", 1, z.shadow(1, 1));
        c.told(z, "its age, too", 1, z.dropsNext());
        c.due("drops stay", 1, z.size(8));
    }

    private void images() {
        c.part("promises 54 and 55");
        ShadowPager x = Checks.of(BASE);
        c.refused(x, "back", 1, x.back(0));
        c.told(x, "image", 0, x.image());
        x.access(0, true, false);
        x.load(9);
        c.told(x, "image", 1, x.image());
        x.unmap(2);
        c.told(x, "image", 2, x.image());
        c.refused(x, "image", 3, x.image());
        c.due("images", 3, x.size(10));
        c.due("acts stay", 3, x.size(9));
        c.told(x, "back", true, x.back(0));
        c.told(x, "tables", -2, x.shadow(0, 0));
        c.told(x, "root", 0, x.root());
        c.told(x, "marks", 0, x.marks());
        c.told(x, "backing", 10, x.backing(2));
        c.due("nothing can be undone", 0, x.size(9));
        c.refused(x, "undo", 6, x.undo());
        c.due("faults stay", 1, x.size(6));
        c.told(x, "back", true, x.back(2));
        c.told(x, "backing", -2, x.backing(2));
        c.told(x, "back", true, x.back(1));
        c.told(x, "root", 9, x.root());
        c.told(x, "writers", 1, x.writers(2));
        x.clean(2);
        c.due("acts", 1, x.size(9));
        c.told(x, "images stay as they are", true, x.back(1));
        c.told(x, "writers", 1, x.writers(2));
        c.refused(x, "back", 1, x.back(3));
        c.refused(x, "back", 1, x.back(-1));
        c.due("images", 3, x.size(10));
        c.refused(x, "image", 3, x.image());
    }

    private void ledAndSize() {
        c.part("promises 56 and 57");
        ShadowPager x = Checks.of(BASE);
        c.refused(x, "undo", 6, x.undo());
        c.due("led", 0, x.led(0));
        c.due("led", 2, x.led(2));
        c.due("led throws", true, ledThrows(x, 3));
        c.due("led throws", true, ledThrows(x, -1));
        c.due("led is no call that may be refused", 6, x.trouble());
        x.access(0, true, false);
        c.due("led", 2, x.led(0));
        c.due("led throws", true, ledThrows(x, 1));
        int[] due = {3, 4, 6, 6, 1, 2, 1, 0, 0, 1, 0, 0};
        for (int what = 0; what < 12; what++) {
            c.due("size " + what, due[what], x.size(what));
        }
        c.due("size", -1, x.size(12));
        c.due("size", -1, x.size(-1));
        x.access(64, false, false);
        x.size(12);
        c.due("size is no call that may be refused", 1, x.trouble());
        x.unmap(1);
        x.image();
        x.feed(0, 0, 0, 0, 0);
        c.due("backed now", 3, x.size(1));
        c.due("words as told", 6, x.size(2));
        c.due("acts", 2, x.size(9));
        c.due("images", 1, x.size(10));
        c.due("tape", 20, x.size(11));
        x.access(9, false, false);
        c.due("led throws", true, ledThrows(x, 0));
        ShadowPager y = Checks.of(SELF);
        y.store(0, 0, 0, false);
        y.undo();
        c.due("faults, undone, too", 1, y.size(6));
        c.due("traps, undone, too", 1, y.size(7));
        y.sweep(0, 63);
        y.drawnFaults(5, 200);
        y.runFaults(3);
        c.due("faults of acts alone", 1, y.size(6));
        ShadowPager z = Checks.of(LEAVES);
        for (int v = 0; v < 32; v += 8) {
            z.access(v, false, false);
        }
        c.due("drops", 2, z.size(8));
        z.undo();
        c.due("drops, undone, too", 2, z.size(8));
    }

    private void trouble() {
        c.part("promise 58");
        ShadowPager x = new ShadowPager();
        c.due("trouble", 0, x.trouble());
        x.machine(1);
        c.due("trouble", 2, x.trouble());
        Checks.read(x, "x");
        c.due("trouble", 4, x.trouble());
        x.fault();
        x.where();
        x.trouble();
        x.feed(0, 0, 0, 0, 0);
        x.size(99);
        c.due("trouble of the latest that may be refused", 4, x.trouble());
        x.machine(0);
        c.due("trouble", 4, x.trouble());
        Checks.read(x, BASE);
        c.due("trouble", 0, x.trouble());
        x.unmap(15);
        c.due("trouble", 5, x.trouble());
        x.access(63, false, false);
        c.due("absent isn't a refusal", 0, x.trouble());
        x.undo();
        x.undo();
        c.due("trouble", 6, x.trouble());
        x.access(1, true, false);
        c.due("denied isn't a refusal", 0, x.trouble());
        x.load(99);
        c.due("trouble", 1, x.trouble());
        x.access(8, false, false);
        c.due("gone isn't a refusal", 0, x.trouble());
        for (int i = 0; i < 4; i++) {
            x.image();
        }
        c.due("trouble", 3, x.trouble());
        x.backing(5);
        c.due("-2 isn't a refusal", 0, x.trouble());
    }

    private void orderOfRefusals() {
        c.part("the order of refusals");
        ShadowPager x = Checks.of(BASE);
        c.refused(x, "wordsWith", 1, x.wordsWith(16, 0));
        c.refused(x, "sweep", 1, x.sweep(64, 0));
        c.refused(x, "store", 1, x.store(0, 8, 4096, false));
        c.refused(x, "device", 1, x.device(5, 8, 4096));
        c.refused(x, "device", 2, x.device(5, 0, 4096));
        c.refused(x, "give", 1, x.give(16, 32, false));
        c.refused(x, "give", 2, x.give(1, 32, false));
    }

    /** Another trouble ahead of a call, lest an old one pass for its own. */
    private void afresh(ShadowPager x) {
        c.due("undo", false, x.undo());
        c.due("trouble", 6, x.trouble());
    }

    private void withoutMachine() {
        c.part("no machine");
        ShadowPager x = new ShadowPager();
        afresh(x);
        c.refused(x, "word", 1, x.word(0, 0));
        afresh(x);
        c.refused(x, "backing", 1, x.backing(0));
        afresh(x);
        c.refused(x, "writes", 1, x.writes(0));
        afresh(x);
        c.refused(x, "root", 1, x.root());
        afresh(x);
        c.refused(x, "marks", 1, x.marks());
        afresh(x);
        c.refused(x, "wordsWith", 1, x.wordsWith(0, 0));
        afresh(x);
        c.refused(x, "look", 1, x.look(0, false, false));
        afresh(x);
        c.refused(x, "leads", 1, x.leads(0));
        afresh(x);
        c.refused(x, "rights", 1, x.rights(0));
        afresh(x);
        c.refused(x, "large", 1, x.large(0));
        afresh(x);
        c.refused(x, "aliases", 1, x.aliases(0));
        afresh(x);
        c.refused(x, "tables", 1, x.tables());
        afresh(x);
        c.refused(x, "hits", 1, x.hits(0, false, false));
        afresh(x);
        c.refused(x, "stale", 1, x.stale());
        afresh(x);
        c.refused(x, "staleAt", 1, x.staleAt());
        afresh(x);
        c.refused(x, "missing", 1, x.missing());
        afresh(x);
        c.refused(x, "shadow", 1, x.shadow(0, 0));
        afresh(x);
        c.refused(x, "entry", 1, x.entry(0, 0));
        afresh(x);
        c.refused(x, "maps", 1, x.maps(0));
        afresh(x);
        c.refused(x, "writers", 1, x.writers(0));
        afresh(x);
        c.refused(x, "watched", 1, x.watched(0));
        afresh(x);
        c.refused(x, "outOfStep", 1, x.outOfStep());
        afresh(x);
        c.refused(x, "dropsNext", 1, x.dropsNext());
        afresh(x);
        c.refused(x, "runFaults", 1, x.runFaults(9));
        afresh(x);
        c.refused(x, "runRefused", 1, x.runRefused(9));
        afresh(x);
        c.refused(x, "runDrops", 1, x.runDrops(9));
        afresh(x);
        c.refused(x, "poolFor", 1, x.poolFor(11));
        afresh(x);
        c.refused(x, "sweep", 1, x.sweep(1, 0));
        afresh(x);
        c.refused(x, "drawnFaults", 1, x.drawnFaults(-1, 0));
        afresh(x);
        c.refused(x, "drawnMarks", 1, x.drawnMarks(-1, 0));
        afresh(x);
        c.refused(x, "rate", 1, x.rate(true));
        afresh(x);
        c.refused(x, "fits", 1, x.fits());
        afresh(x);
        c.refused(x, "fitAt", 1, x.fitAt(0));
        afresh(x);
        c.refused(x, "could", 1, x.could());
        afresh(x);
        c.refused(x, "surely", 1, x.surely());
        afresh(x);
        c.refused(x, "ask", 1, x.ask());
        afresh(x);
        c.refused(x, "askLeaves", 1, x.askLeaves());
        afresh(x);
        c.refused(x, "judge", 1, x.judge());
        afresh(x);
        c.refused(x, "access", 1, x.access(0, false, false));
        afresh(x);
        c.refused(x, "store", 1, x.store(0, 0, 4096, false));
        afresh(x);
        c.refused(x, "load", 1, x.load(0));
        afresh(x);
        c.refused(x, "flush", 1, x.flush(0));
        afresh(x);
        c.refused(x, "device", 1, x.device(0, 0, 4096));
        afresh(x);
        c.refused(x, "unmap", 1, x.unmap(0));
        afresh(x);
        c.refused(x, "give", 1, x.give(0, 32, true));
        afresh(x);
        c.refused(x, "protect", 1, x.protect(0));
        afresh(x);
        c.refused(x, "clean", 1, x.clean(0));
        x.root();
        c.refused(x, "undo", 6, x.undo());
        afresh(x);
        c.refused(x, "image", 1, x.image());
        afresh(x);
        c.refused(x, "back", 1, x.back(0));
        c.due("led throws", true, ledThrows(x, 0));
    }

    /** Numbers far out are refused like those just out of bounds; nothing is thrown. */
    private void farNumbers() {
        c.part("far numbers");
        for (int far : FAR) {
            ShadowPager x = Checks.of(BASE);
            x.access(0, true, false);
            c.refused(x, "machine", 2, x.machine(far));
            c.refused(x, "word", 1, x.word(far, far));
            c.refused(x, "backing", 1, x.backing(far));
            c.refused(x, "writes", 1, x.writes(far));
            c.refused(x, "wordsWith", 2, x.wordsWith(0, far));
            c.refused(x, "look", 1, x.look(far, true, true));
            c.refused(x, "leads", 1, x.leads(far));
            c.refused(x, "rights", 1, x.rights(far));
            c.refused(x, "large", 1, x.large(far));
            c.refused(x, "aliases", 1, x.aliases(far));
            c.refused(x, "hits", 1, x.hits(far, true, true));
            c.refused(x, "shadow", 1, x.shadow(far, 0));
            c.refused(x, "shadow", 1, x.shadow(0, far));
            c.refused(x, "entry", 1, x.entry(far, far));
            c.refused(x, "maps", 1, x.maps(far));
            c.refused(x, "writers", 1, x.writers(far));
            c.refused(x, "watched", 1, x.watched(far));
            c.refused(x, "runFaults", 2, x.runFaults(far));
            c.refused(x, "runRefused", 2, x.runRefused(far));
            c.refused(x, "runDrops", 2, x.runDrops(far));
            c.refused(x, "poolFor", 2, x.poolFor(far));
            c.refused(x, "sweep", 1, x.sweep(0, far));
            c.refused(x, "sweep", 1, x.sweep(far, 0));
            c.refused(x, "drawnFaults", 2, x.drawnFaults(far, 1));
            c.refused(x, "drawnMarks", 2, x.drawnMarks(1, far));
            c.refused(x, "fitAt", 1, x.fitAt(far));
            c.refused(x, "access", 1, x.access(far, true, true));
            c.refused(x, "store", 1, x.store(far, 0, 0, true));
            c.refused(x, "store", 1, x.store(0, far, 0, true));
            c.refused(x, "store", 2, x.store(0, 0, far, true));
            c.refused(x, "load", 1, x.load(far));
            c.refused(x, "flush", 1, x.flush(far));
            c.refused(x, "device", 1, x.device(far, 0, 0));
            c.refused(x, "device", 1, x.device(1, far, 0));
            c.refused(x, "device", 2, x.device(1, 0, far));
            c.refused(x, "unmap", 1, x.unmap(far));
            c.refused(x, "give", 1, x.give(far, 0, true));
            c.refused(x, "give", 2, x.give(5, far, true));
            c.refused(x, "protect", 1, x.protect(far));
            c.refused(x, "clean", 1, x.clean(far));
            c.refused(x, "back", 1, x.back(far));
            c.due("led throws", true, ledThrows(x, far));
            c.due("size", -1, x.size(far));
            c.due("none was an act", 1, x.size(9));
            c.told(x, "hits", 10, x.hits(0, true, false));
        }
    }
}
