/** The second and third of the terms: words, looks, shadow tables, accesses, stores, loads and acts, sentence by sentence. */
public final class EdgesOfTablesTest {
    private static final String PLAIN = Texts.PLAIN;

    // what a word has
    private static final int P = 1;
    private static final int W = 2;
    private static final int U = 4;
    private static final int S = 8;
    private static final int D = 16;
    private static final int L = 32;

    private final Sentences s = new Sentences();
    private final Checks c = s.c;

    public static void main(String[] args) {
        EdgesOfTablesTest t = new EdgesOfTablesTest();
        t.words();
        t.pages();
        t.looks();
        t.tables();
        t.watching();
        t.hardware();
        t.accessesNoted();
        t.entriesOfRoots();
        t.entriesOfLeaves();
        t.entriesOfBrokenOnes();
        t.made();
        t.droppedByTheRoot();
        t.loseW();
        t.stores();
        t.traps();
        t.trapsOfRoots();
        t.loads();
        t.hostFrame0();
        t.frame0();
        t.table0();
        t.everyTable();
        t.rightsOfMaps();
        t.staleAndMissing();
        t.sweepsFromNow();
        t.draws();
        t.flushes();
        t.devices();
        t.unmapsAndGives();
        t.protectsAndCleans();
        t.undoing();
        t.goingBack();
        t.s.end();
    }

    private static int to(int f, int bits) {
        return f * 256 + bits;
    }

    private static String word(int f, int i, int word) {
        return ";word " + f + ' ' + i + ' ' + word;
    }

    private void looks(ShadowPager x, int v, int r, int w, int ur, int uw) {
        c.due("look " + v + " r", r, x.look(v, false, false));
        c.due("look " + v + " w", w, x.look(v, true, false));
        c.due("look " + v + " ur", ur, x.look(v, false, true));
        c.due("look " + v + " uw", uw, x.look(v, true, true));
    }

    private void hits(ShadowPager x, int v, int r, int w, int ur, int uw) {
        c.due("hits " + v + " r", r, x.hits(v, false, false));
        c.due("hits " + v + " w", w, x.hits(v, true, false));
        c.due("hits " + v + " ur", ur, x.hits(v, false, true));
        c.due("hits " + v + " uw", uw, x.hits(v, true, true));
    }

    // ---- II: words, pages, looks

    private void words() {
        s.says("II", "(64, 128 mean nothing)", () -> {
            ShadowPager x = Checks.of(PLAIN + ";host 5 5 rw" + word(0, 0, to(1, 7 + 192)) + word(1, 0, to(5, 7 + 192)) + word(1, 1, to(5, 192)));
            looks(x, 0, 5, 5, 5, 5);
            looks(x, 1, -2, -2, -2, -2);
            c.due("access", 5, x.access(0, true, true));
            c.due("they stay", to(1, 7 + 192 + S), x.word(0, 0));
            c.due("they stay", to(5, 7 + 192 + S + D), x.word(1, 0));
            c.due("entry", 20 + 3, x.entry(1, 0));
        });
        s.says("II", "256 times a FRAME: 0, 15", () -> {
            ShadowPager x = Checks.of(PLAIN + word(0, 0, to(15, P)) + word(15, 0, to(0, P)) + word(15, 1, 4095) + word(0, 1, to(0, P)));
            c.due("leads", 0, x.leads(0));
            c.due("leads", 15, x.leads(1));
            c.due("leads by the root", 15, x.leads(8));
        });
        s.says("II", "LARGE (in the root FRAME; elsewhere it means nothing)", () -> {
            ShadowPager x = Checks.of(PLAIN + ";host 5 5 rw" + word(0, 0, to(1, 7)) + word(1, 3, to(5, 7 + L)));
            looks(x, 3, 5, 5, 5, 5);
            c.due("leads", 5, x.leads(3));
            c.due("large", 0, x.large(3));
            x.access(3, true, false);
            c.due("a leaf", 1, x.shadow(1, 0));
            c.due("both words", to(1, 7 + S), x.word(0, 0));
            c.due("both words", to(5, 7 + L + S + D), x.word(1, 3));
        });
        s.says("II", "LARGE: of a WORD of the root FRAME that is the other one's, too", () -> {
            ShadowPager x = Checks.of(PLAIN + ";host 5 5 rw;host 8 8 rw" + word(0, 0, to(0, 7)) + word(0, 1, to(5, 7 + L)));
            c.due("the last word of page 1 is no large one", 5, x.look(1, true, true));
            c.due("large", 0, x.large(1));
            c.due("that of page 13 is", 5, x.look(13, true, true));
            c.due("large", 1, x.large(13));
        });
        s.says("II", "WORDS of FRAMES that aren't backed are read all the same", () -> {
            ShadowPager x = Checks.of(PLAIN + ";host 5 5 rw" + word(0, 0, to(1, 7)) + word(1, 0, to(5, 7)));
            c.due("backed", -2, x.backing(0));
            c.due("backed", -2, x.backing(1));
            looks(x, 0, 5, 5, 5, 5);
            c.due("access", 5, x.access(0, true, true));
            c.due("and come to be seen", to(1, 7 + S), x.word(0, 0));
        });
    }

    private void pages() {
        s.says("II", "PAGE v: v by 8, the lower WHOLE, is its place in the root FRAME; what is left its place in the other", () -> {
            StringBuilder text = new StringBuilder(PLAIN);
            for (int i = 0; i < 8; i++) {
                text.append(word(0, i, to(1 + i % 2, P)));
                text.append(word(1, i, to(i, P))).append(word(2, i, to(8 + i, P)));
            }
            ShadowPager x = Checks.of(text.toString());
            for (int v = 0; v < 64; v++) {
                c.due("leads " + v, v / 8 % 2 * 8 + v % 8, x.leads(v));
            }
        });
        s.says("II", "it is left of 8 FRAMES, from 0 on if the WORD's is below 8, else from 8 on", () -> {
            int[] frames = {0, 1, 6, 7, 8, 9, 14, 15};
            StringBuilder text = new StringBuilder(PLAIN);
            for (int i = 0; i < 8; i++) {
                text.append(word(0, i, to(frames[i], P + L)));
            }
            ShadowPager x = Checks.of(text.toString());
            for (int v = 0; v < 64; v++) {
                c.due("leads " + v, (frames[v / 8] < 8 ? 0 : 8) + v % 8, x.leads(v));
            }
        });
    }

    private void looks() {
        s.says("II", "the root's WORD; not PRESENT: ABSENT, whatever else it has", () -> {
            ShadowPager x = Checks.of(PLAIN + ";host 5 5 rw" + word(0, 0, to(1, 62 - L)) + word(0, 1, to(5, 62)) + word(1, 0, to(5, 7)));
            looks(x, 0, -2, -2, -2, -2);
            looks(x, 13, -2, -2, -2, -2);
        });
        s.says("II", "To write without its WRITE, as user without its USER: DENIED: the root's", () -> {
            String rest = word(1, 0, to(5, 7)) + ";host 5 5 rw";
            looks(Checks.of(PLAIN + word(0, 0, to(1, P)) + rest), 0, 5, -3, -3, -3);
            looks(Checks.of(PLAIN + word(0, 0, to(1, P + W)) + rest), 0, 5, 5, -3, -3);
            looks(Checks.of(PLAIN + word(0, 0, to(1, P + U)) + rest), 0, 5, -3, 5, -3);
            looks(Checks.of(PLAIN + word(0, 0, to(1, P + W + U)) + rest), 0, 5, 5, 5, 5);
        });
        s.says("II", "If it isn't LARGE, likewise the WORD of the other FRAME", () -> {
            String rest = word(0, 0, to(1, 7)) + ";host 5 5 rw";
            looks(Checks.of(PLAIN + word(1, 0, to(5, W + U)) + rest), 0, -2, -2, -2, -2);
            looks(Checks.of(PLAIN + word(1, 0, to(5, P)) + rest), 0, 5, -3, -3, -3);
            looks(Checks.of(PLAIN + word(1, 0, to(5, P + W)) + rest), 0, 5, 5, -3, -3);
            looks(Checks.of(PLAIN + word(1, 0, to(5, P + U)) + rest), 0, 5, -3, 5, -3);
        });
        s.says("II", "LARGE: no WORD of another FRAME counts", () -> {
            ShadowPager x = Checks.of(PLAIN + ";host 3 3 rw;host 4 4 rw" + word(0, 0, to(1, 7 + L)) + word(1, 3, 0) + word(1, 4, to(9, P)));
            looks(x, 3, 3, 3, 3, 3);
            looks(x, 4, 4, 4, 4, 4);
        });
        s.says("II", "DENIED by the root's WORD ahead of ABSENT by the other", () -> {
            ShadowPager x = Checks.of(PLAIN + word(0, 0, to(1, P)));
            looks(x, 0, -2, -3, -3, -3);
        });
        s.says("II", "The FRAME f it leads to isn't backed: GONE, behind what the WORDS deny, ahead of its being ro", () -> {
            ShadowPager x = Checks.of(PLAIN + word(0, 0, to(1, 7)) + word(1, 0, to(5, 7)) + word(1, 1, to(5, P)) + word(0, 1, to(5, P + L)));
            looks(x, 0, -4, -4, -4, -4);
            looks(x, 1, -4, -3, -3, -3);
            looks(x, 8, -4, -3, -3, -3);
        });
        s.says("II", "to write, and it is ro: DENIED. Else DONE: the host frame", () -> {
            ShadowPager x = Checks.of(PLAIN + ";host 0 31 ro;host 15 0 rw" + word(0, 0, to(1, 7)) + word(1, 0, to(0, 7)) + word(1, 1, to(15, 7)));
            looks(x, 0, 31, -3, 31, -3);
            looks(x, 1, 0, 0, 0, 0);
        });
        s.says("II", "LOOK by the tables alone: of the root FRAME now", () -> {
            ShadowPager x = Checks.of(PLAIN + ";host 5 5 rw" + word(0, 0, to(1, 7)) + word(1, 0, to(5, 7)));
            x.access(0, true, true);
            x.load(15);
            looks(x, 0, -2, -2, -2, -2);
            x.load(0);
            looks(x, 0, 5, 5, 5, 5);
        });
    }

    // ---- II: shadow tables, watching, hardware

    private void tables() {
        s.says("II", "out of the pool, from 0 on: the lowest free number", () -> {
            ShadowPager x = Checks.of("machine pool 8 root 0;host 15 0 ro" + Texts.sevenLeaves());
            for (int k = 0; k < 7; k++) {
                c.due("free", k == 0 ? 0 : k + 1, x.led(0));
                x.access(8 * k, false, false);
                c.due("leaf", k + 1, x.shadow(k + 1, 1));
                c.due("made ahead", k + 1, x.shadow(k + 1, 4));
            }
            c.due("none is free", 1, x.dropsNext());
            c.due("drops", 0, x.size(8));
        });
        s.says("II", "a BROKEN one of 0 or 8: each its own", () -> {
            ShadowPager x = Checks.of("machine pool 4 root 1;host 0 0 rw;host 15 15 rw" + word(1, 0, to(7, P + L)) + word(1, 7, to(8, P + L)));
            x.access(0, false, false);
            x.access(63, false, false);
            c.due("broken", 2, x.shadow(1, 0));
            c.due("of 0", 0, x.shadow(1, 1));
            c.due("broken", 2, x.shadow(2, 0));
            c.due("of 8", 8, x.shadow(2, 1));
            c.due("entry", 1, x.entry(1, 0));
            c.due("entry", 61, x.entry(2, 7));
        });
        s.says("II", "a BROKEN one of 0 is no LEAF of 0, nor a ROOT of it", () -> {
            ShadowPager x = Checks.of("machine pool 4 root 0;host 5 5 rw" + word(0, 0, to(0, P + L)) + word(0, 1, to(0, P)) + word(0, 2, to(5, P)));
            x.access(5, false, false);
            x.access(10, false, false);
            c.due("root", 0, x.shadow(0, 0));
            c.due("broken", 2, x.shadow(1, 0));
            c.due("leaf", 1, x.shadow(2, 0));
            for (int n = 0; n < 3; n++) {
                c.due("of 0", 0, x.shadow(n, 1));
            }
        });
        s.says("II", "MAPS of a FRAME: ENTRIES of LEAVES and BROKEN ones that tell it, not those of ROOTS", () -> {
            ShadowPager x = Checks.of("machine pool 4 root 0;host 1 1 rw;host 2 2 rw" + word(0, 0, to(3, 7)) + word(0, 1, to(0, 7 + L))
                    + word(3, 0, to(1, 7)) + word(3, 1, to(1, 7)) + word(3, 2, to(2, 7)));
            x.access(0, false, false);
            x.access(1, false, false);
            x.access(9, false, false);
            // tables 1 and 2 are told by the root's entries
            c.due("root's entry", 4 + 3, x.entry(0, 0));
            c.due("root's entry", 8 + 1, x.entry(0, 1));
            c.due("maps of 1", 3, x.maps(1));
            c.due("maps of 2", 0, x.maps(2));
            c.due("maps of 0", 0, x.maps(0));
        });
    }

    private void watching() {
        s.says("II", "A FRAME is WATCHED if there is a ROOT of it, loaded or not", () -> {
            ShadowPager x = Checks.of(PLAIN + ";host 5 5 rw" + word(0, 0, to(5, P + L)));
            c.due("not yet", 0, x.watched(0));
            x.access(63, false, false);
            c.due("not by an access that isn't done", 0, x.watched(0));
            x.access(5, false, false);
            c.due("watched", 1, x.watched(0));
            x.load(3);
            c.due("watched", 1, x.watched(0));
            c.due("no root of it yet", 0, x.watched(3));
        });
        s.says("II", "or a LEAF that isn't OUT OF STEP", () -> {
            ShadowPager x = Checks.of(Texts.SELF);
            x.access(1, false, false);
            c.due("watched", 1, x.watched(1));
            x.store(0, 7, 0, false);
            c.due("out of step", 0, x.watched(1));
            x.load(0);
            c.due("watched again", 1, x.watched(1));
        });
        s.says("II", "or: by its ROOT, though its LEAF is OUT OF STEP", () -> {
            ShadowPager x = Checks.of(PLAIN + ";host 0 3 rw" + word(0, 0, 7));
            x.store(0, 1, 0, false);
            c.due("out of step", 2, x.outOfStep());
            c.due("watched", 1, x.watched(0));
        });
        s.says("II", "a BROKEN one watches neither 0 nor 8", () -> {
            ShadowPager x = Checks.of("machine pool 4 root 1;host 0 0 rw;host 8 8 rw" + word(1, 0, to(0, 7 + L)) + word(1, 1, to(8, 7 + L)));
            x.access(0, true, false);
            x.access(8, true, false);
            c.due("watched", 0, x.watched(0));
            c.due("watched", 0, x.watched(8));
            c.due("W", 3, x.entry(1, 0));
            c.due("W", 35, x.entry(2, 0));
        });
    }

    private void hardware() {
        s.says("II", "HARDWARE: the ROOT of the root FRAME, its ENTRY, that TABLE's ENTRY, all there", () -> {
            ShadowPager x = Checks.of(PLAIN + ";host 5 5 rw;host 6 6 rw" + word(0, 0, to(1, 7)) + word(0, 1, to(1, 7))
                    + word(1, 0, to(5, 7)) + word(1, 1, to(6, 7)));
            hits(x, 0, -2, -2, -2, -2);
            x.access(0, true, true);
            hits(x, 0, 5, 5, 5, 5);
            c.due("no entry of the leaf", -2, x.hits(1, false, false));
            c.due("no entry of the root", -2, x.hits(8, false, false));
            x.access(9, false, false);
            c.due("by the other entry of the root", 6, x.hits(1, false, false));
            c.due("by the other entry of the root", 5, x.hits(8, false, false));
            x.load(2);
            c.due("no root", -2, x.hits(0, false, false));
        });
        s.says("II", "to write W of both: one alone is not enough", () -> {
            ShadowPager x = Checks.of(PLAIN + ";host 3 3 rw" + word(0, 0, to(0, 7 + L)) + word(0, 1, to(0, 7 + L)) + word(0, 2, to(0, 7 + L + D)));
            x.access(3, true, false);
            x.access(11, false, false);
            c.due("below alone", 4 + 1, x.entry(0, 1));
            c.due("below alone", 12 + 3, x.entry(1, 3));
            hits(x, 11, 3, -2, 3, -2);
            hits(x, 3, 3, 3, 3, 3);
            x.clean(3);
            c.due("above alone", 4 + 3, x.entry(0, 0));
            c.due("above alone", 12 + 1, x.entry(1, 3));
            hits(x, 3, 3, -2, 3, -2);
        });
        s.says("II", "as user U of both: one alone is not enough", () -> {
            ShadowPager x = Checks.of(PLAIN + ";host 5 5 rw" + word(0, 0, to(1, P + W)) + word(0, 1, to(1, P + W + U))
                    + word(1, 0, to(5, P + W + U)) + word(1, 1, to(5, P + W)));
            x.access(0, true, false);
            x.access(9, true, false);
            hits(x, 0, 5, 5, -2, -2);
            hits(x, 9, 5, 5, -2, -2);
            hits(x, 8, 5, 5, 5, 5);
            hits(x, 1, 5, 5, -2, -2);
        });
    }

    // ---- II: accesses

    private void accessesNoted() {
        s.says("II", "AN ACCESS HITS: nothing else is done", () -> {
            ShadowPager x = Checks.of(Texts.SELF);
            x.access(1, true, true);
            x.store(0, 1, to(5, P), false);
            c.due("the word is written anew", to(5, P), x.word(1, 1));
            c.due("a hit, though the word denies it", 5, x.access(1, true, true));
            c.due("it isn't seen, nor dirty", to(5, P), x.word(1, 1));
            c.due("faults", 2, x.size(6));
        });
        s.says("II", "or FAULTS (DONE or not)", () -> {
            ShadowPager x = Checks.of(Texts.BASE);
            int[] pages = {0, 63, 8};
            for (int i = 0; i < 3; i++) {
                x.access(pages[i], false, false);
                c.due("faults", i + 1, x.size(6));
            }
            x.access(1, true, false);
            c.due("faults", 4, x.size(6));
            x.access(0, false, false);
            c.due("no fault", 4, x.size(6));
        });
        s.says("II", "both WORDS come to be SEEN, the last of them, to write, DIRTY", () -> {
            ShadowPager x = Checks.of(PLAIN + ";host 5 5 rw" + word(0, 0, to(1, 7)) + word(1, 0, to(5, 7)) + word(1, 1, to(5, 7)));
            x.access(0, false, true);
            c.due("the root's", to(1, 7 + S), x.word(0, 0));
            c.due("the last", to(5, 7 + S), x.word(1, 0));
            c.due("no other", to(5, 7), x.word(1, 1));
            x.access(0, true, true);
            c.due("the root's", to(1, 7 + S), x.word(0, 0));
            c.due("the last", to(5, 7 + S + D), x.word(1, 0));
        });
        s.says("II", "(of a LARGE one the root's)", () -> {
            ShadowPager x = Checks.of(PLAIN + ";host 5 5 rw" + word(0, 0, to(1, 7 + L)) + word(1, 5, to(5, 7)));
            x.access(5, false, true);
            c.due("the root's", to(1, 7 + L + S), x.word(0, 0));
            x.access(5, true, true);
            c.due("the root's", to(1, 7 + L + S + D), x.word(0, 0));
            c.due("no other", to(5, 7), x.word(1, 5));
        });
        s.says("II", "both WORDS: one that is both", () -> {
            ShadowPager x = Checks.of(PLAIN + ";host 0 3 rw" + word(0, 0, 7));
            x.access(0, false, false);
            c.due("seen", 7 + S, x.word(0, 0));
            x.access(0, true, false);
            c.due("dirty", 7 + S + D, x.word(0, 0));
        });
        s.says("II", "(past all watching)", () -> {
            ShadowPager x = Checks.of(PLAIN + ";host 0 1 rw;host 1 2 rw;host 5 5 rw" + word(0, 0, to(1, 7)) + word(0, 1, to(1, 7))
                    + word(1, 0, to(5, 7)) + word(1, 1, to(5, 7)));
            x.access(0, false, false);
            x.access(9, true, false);
            x.access(0, true, false);
            c.due("no trap", 0, x.size(7));
            c.due("in step", 0, x.outOfStep());
            c.due("all entries stay", 3, x.shadow(0, 3));
            c.due("all entries stay", 3, x.shadow(1, 3));
            c.due("watched", 1, x.watched(1));
            c.due("no mark of theirs", 1 << 5, x.marks());
        });
        s.says("II", "to write the FRAME's MARK is set", () -> {
            ShadowPager x = Checks.of(PLAIN + ";host 0 0 rw;host 15 15 rw" + word(0, 0, to(1, 7)) + word(1, 0, to(0, 7)) + word(1, 1, to(15, 7)));
            x.access(0, false, true);
            x.access(1, false, true);
            c.due("not to read", 0, x.marks());
            x.access(1, true, false);
            c.due("marks", 1 << 15, x.marks());
            x.access(0, true, true);
            c.due("marks", 1 << 15 | 1, x.marks());
        });
        s.says("II", "if that isn't DONE, it is what LOOK says, and nothing else is done", () -> {
            ShadowPager x = Checks.of(PLAIN + ";host 5 5 ro" + word(0, 0, to(1, 7)) + word(1, 0, to(5, 7)) + word(1, 1, to(6, 7)) + word(1, 2, to(5, W + U)));
            c.due("denied", -3, x.access(0, true, true));
            c.due("gone", -4, x.access(1, true, true));
            c.due("absent", -2, x.access(2, true, true));
            c.due("seen", 0, x.wordsWith(0, S));
            c.due("seen", 0, x.wordsWith(1, S));
            c.due("marks", 0, x.marks());
            c.due("tables", 0, x.led(0));
            c.due("watched", 0, x.watched(0));
        });
        s.says("II", "(a LEAF OUT OF STEP is one)", () -> {
            ShadowPager x = Checks.of(Texts.SELF);
            x.store(0, 7, 0, false);
            c.due("out of step", 2, x.outOfStep());
            x.access(2, false, false);
            c.due("no other is made", 2, x.led(0));
            c.due("its entry is told", 24 + 1, x.entry(1, 2));
            c.due("it is out of step yet", 2, x.outOfStep());
        });
    }

    private int rootsEntry(int bits, boolean write) {
        ShadowPager x = Checks.of(PLAIN + ";host 5 5 rw" + word(0, 0, to(1, bits)) + word(1, 5, to(5, 7)));
        x.access(5, write, false);
        return x.entry(0, 0);
    }

    private void entriesOfRoots() {
        s.says("II", "the ROOT's ENTRY tells that, with W: its WORD has WRITE", () -> {
            c.due("without, DIRTY or not", 4, rootsEntry(P, false));
            c.due("without, DIRTY or not", 4, rootsEntry(P + D, false));
            c.due("with", 4 + 2, rootsEntry(P + W, false));
        });
        s.says("II", "and, LARGE, DIRTY", () -> {
            c.due("WRITE alone", 4, rootsEntry(P + W + L, false));
            c.due("DIRTY alone", 4, rootsEntry(P + D + L, false));
            c.due("both", 4 + 2, rootsEntry(P + W + D + L, false));
            c.due("both, by this access", 4 + 2, rootsEntry(P + W + L, true));
        });
        s.says("II", "U: USER", () -> {
            c.due("with", 4 + 1, rootsEntry(P + U, false));
            c.due("with, LARGE", 4 + 1, rootsEntry(P + U + L, false));
            c.due("without", 4 + 2, rootsEntry(P + W, false));
        });
        s.says("II", "an ENTRY that is there is told anew", () -> {
            ShadowPager x = Checks.of(PLAIN + ";host 0 0 rw;host 5 5 rw;host 6 6 rw" + word(0, 0, to(1, 7)) + word(0, 1, to(5, 7 + L)) + word(1, 0, to(5, 7)) + word(2, 0, to(6, 7)));
            x.access(13, false, false);
            c.due("not dirty", 4 + 1, x.entry(0, 1));
            x.access(13, true, false);
            c.due("dirty", 4 + 3, x.entry(0, 1));
        });
    }

    /** The leaf's entry of page 0, behind a read, when frame f has its mark or not. */
    private int leafsEntry(int f, int bits, boolean marked) {
        ShadowPager x = Checks.of(PLAIN + ";host 1 1 rw;host 5 5 rw;host 6 6 ro" + word(0, 0, to(1, 7)) + word(1, 0, to(f, bits)));
        if (marked) {
            x.device(f, 7, 0);
        }
        x.access(0, false, false);
        return x.entry(1, 0) - 4 * f;
    }

    private void entriesOfLeaves() {
        s.says("II", "that one's ENTRY the FRAME, with U: its WORD has USER", () -> {
            c.due("with", 1, leafsEntry(5, P + U, false));
            c.due("without", 0, leafsEntry(5, P, false));
        });
        s.says("II", "and W: its WORD has WRITE", () -> c.due("without", 1, leafsEntry(5, P + U + D, true)));
        s.says("II", "and DIRTY", () -> c.due("without", 1, leafsEntry(5, P + W + U, true)));
        s.says("II", "the FRAME is rw", () -> c.due("ro", 1, leafsEntry(6, P + W + U + D, true)));
        s.says("II", "has its MARK", () -> c.due("not", 1, leafsEntry(5, P + W + U + D, false)));
        s.says("II", "and isn't WATCHED", () -> c.due("watched", 1, leafsEntry(1, P + W + U + D, true)));
        s.says("II", "and W: if all are so, by a read, too", () -> {
            c.due("all", 3, leafsEntry(5, P + W + U + D, true));
            c.due("all, no USER", 2, leafsEntry(5, P + W + D, true));
        });
    }

    /** The broken one's entry of page f, likewise. */
    private int brokenOnesEntry(int f, int bits, boolean marked) {
        ShadowPager x = Checks.of(PLAIN + ";host 0 0 rw;host 5 5 rw;host 6 6 ro" + word(0, 0, to(0, bits + L)));
        if (marked) {
            x.device(f, 7, 0);
        }
        x.access(f, false, false);
        return x.entry(1, f) - 4 * f;
    }

    private void entriesOfBrokenOnes() {
        s.says("II", "with U: (BROKEN: always)", () -> c.due("without USER", 1, brokenOnesEntry(5, P, false)));
        s.says("II", "and W: (BROKEN: always)", () -> {
            c.due("without WRITE, DIRTY", 3, brokenOnesEntry(5, P, true));
            c.due("with all", 3, brokenOnesEntry(5, P + W + U + D, true));
        });
        s.says("II", "BROKEN: the FRAME is rw", () -> c.due("ro", 1, brokenOnesEntry(6, P + W + U + D, true)));
        s.says("II", "BROKEN: has its MARK", () -> c.due("not", 1, brokenOnesEntry(5, P + W + U + D, false)));
        s.says("II", "BROKEN: and isn't WATCHED", () -> c.due("watched", 1, brokenOnesEntry(0, P + W + U + D, true)));
    }

    // ---- II: made, dropped

    private void made() {
        s.says("II", "if there is none, the TABLE MADE longest ago, but the ROOT of the root FRAME, is DROPPED ahead of it", () -> {
            ShadowPager x = Checks.of(Texts.LEAVES);
            x.access(0, false, false);
            x.access(8, false, false);
            c.due("drops", 0, x.size(8));
            x.access(16, false, false);
            c.due("the root's own stays", 0, x.shadow(0, 0));
            c.due("leaf of 3", 3, x.shadow(1, 1));
            c.due("leaf of 2", 2, x.shadow(2, 1));
            c.due("drops", 1, x.size(8));
            x.access(24, false, false);
            c.due("leaf of 4", 4, x.shadow(2, 1));
            c.due("drops", 2, x.size(8));
        });
        s.says("II", "MADE longest ago: not told longest ago", () -> {
            ShadowPager x = Checks.of(Texts.LEAVES);
            x.access(0, false, false);
            x.access(8, false, false);
            x.flush(0);
            x.access(0, true, false);
            x.access(16, false, false);
            c.due("the leaf of 1 is gone", 3, x.shadow(1, 1));
        });
        s.says("II", "DROPPED: its ENTRIES are there no more", () -> {
            ShadowPager x = Checks.of(Texts.LEAVES + word(1, 1, to(6, 7)));
            x.access(0, false, false);
            x.access(1, false, false);
            x.access(8, false, false);
            c.due("maps", 1, x.maps(6));
            x.access(16, false, false);
            c.due("maps", 0, x.maps(6));
            c.due("the new one's alone", 1, x.shadow(1, 3));
            c.due("not watched", 0, x.watched(1));
        });
        s.says("II", "and those of ROOTS that tell it: all of them", () -> {
            ShadowPager x = Checks.of("machine pool 4 root 0;host 5 5 rw" + word(0, 0, to(1, 7)) + word(0, 7, to(1, 7)) + word(0, 1, to(2, 7)) + word(0, 2, to(4, 7))
                    + word(3, 3, to(1, 7)) + word(1, 0, to(5, 7)) + word(2, 0, to(5, 7)) + word(4, 0, to(5, 7)));
            x.access(0, false, false);
            x.access(56, false, false);
            x.load(3);
            x.access(24, false, false);
            c.due("entries that tell the leaf", 3, x.shadow(1, 5));
            x.load(0);
            x.access(8, false, false);
            c.due("none is free", 1, x.dropsNext());
            x.access(16, false, false);
            c.due("leaf of 4", 4, x.shadow(1, 1));
            c.due("one entry tells it", 1, x.shadow(1, 5));
            c.due("of the root", 2 + 4, x.shadow(0, 3));
            c.due("of the other root", 0, x.shadow(2, 3));
        });
        s.says("II", "a LEAF OUT OF STEP that is DROPPED is so no more, nor is the next one", () -> {
            ShadowPager x = Checks.of(PLAIN + ";host 1 1 rw;host 5 5 rw" + word(0, 0, to(1, 7)) + word(0, 1, to(2, 7)) + word(0, 2, to(3, 7))
                    + word(1, 0, to(5, 7)) + word(1, 1, to(1, 7)) + word(2, 0, to(5, 7)) + word(3, 0, to(5, 7)));
            x.store(1, 7, 0, false);
            c.due("out of step", 2, x.outOfStep());
            x.access(8, false, false);
            x.access(16, false, false);
            c.due("leaf of 3", 3, x.shadow(1, 1));
            c.due("out of step", 0, x.outOfStep());
            c.due("leaves", 0, x.load(0));
            x.access(0, false, false);
            c.due("leaf of 1", 1, x.shadow(2, 1));
            c.due("in step", 0, x.outOfStep());
            c.due("watched", 1, x.watched(1));
        });
        s.says("II", "pools of 3 and of 8 that are full", () -> {
            for (int pool = 3; pool <= 8; pool++) {
                ShadowPager x = Checks.of("machine pool " + pool + " root 0;host 15 0 ro" + Texts.sevenLeaves());
                for (int k = 0; k < 7; k++) {
                    x.access(8 * k, false, false);
                    c.due("drops", Math.max(0, k + 2 - pool), x.size(8));
                }
                for (int n = 0; n < pool; n++) {
                    c.due("there", true, x.shadow(n, 0) >= 0);
                }
            }
        });
    }

    private void droppedByTheRoot() {
        s.says("II", "Then the ROOT is MADE, if there is none, the LEAF, if there is none: one that its ROOT dropped is MADE, too", () -> {
            ShadowPager x = Checks.of(PLAIN + ";host 5 5 rw" + word(0, 0, to(1, 7)) + word(0, 1, to(2, 7)) + word(1, 0, to(5, 7)) + word(2, 0, to(5, 7)) + word(3, 0, to(1, 7)));
            x.access(0, false, false);
            x.access(8, false, false);
            x.load(3);
            c.due("the other root's goes first", 0, x.dropsNext());
            x.access(0, false, false);
            c.due("drops", 1, x.size(8));
            c.due("root of 3", 3, x.shadow(0, 1));
            c.due("the leaf of 1 stayed", 1, x.shadow(1, 1));
            x.load(0);
            c.due("the leaf of 1 goes first", 1, x.dropsNext());
            x.access(0, false, false);
            c.due("two more", 3, x.size(8));
            c.due("root of 0", 0, x.shadow(1, 0));
            c.due("leaf of 1", 1, x.shadow(2, 0));
            c.due("leaf of 1", 1, x.shadow(2, 1));
            c.due("the root of 3 is there yet", 3, x.shadow(0, 1));
            c.due("without the entry that told the leaf", 0, x.shadow(0, 3));
            c.due("hits", 5, x.hits(0, false, true));
        });
    }

    private void loseW() {
        String text = "machine pool 5 root 0;host 5 5 rw;host 6 6 rw;host 8 8 rw;host 9 9 rw" + word(0, 0, to(1, 7)) + word(0, 1, to(5, 7))
                + word(0, 2, to(8, 7 + L)) + word(1, 0, to(5, 7)) + word(1, 1, to(6, 7)) + word(1, 3, to(8, 7)) + word(5, 0, to(1, 7))
                + word(5, 1, to(6, 7));
        s.says("II", "All MAPS of a FRAME that comes to be WATCHED lose W: by a LEAF", () -> {
            ShadowPager x = Checks.of(text);
            x.access(0, true, true);
            x.access(1, true, true);
            c.due("W", 20 + 3, x.entry(1, 0));
            x.access(9, false, false);
            c.due("watched", 1, x.watched(5));
            c.due("W is lost", 20 + 1, x.entry(1, 0));
            c.due("that of another frame isn't", 24 + 3, x.entry(1, 1));
        });
        s.says("II", "All MAPS of a FRAME that comes to be WATCHED lose W: by a ROOT", () -> {
            ShadowPager x = Checks.of(text);
            x.access(0, true, true);
            x.access(1, true, true);
            x.load(5);
            c.due("not by the load", 20 + 3, x.entry(1, 0));
            x.access(1, false, false);
            c.due("watched", 1, x.watched(5));
            c.due("W is lost", 20 + 1, x.entry(1, 0));
        });
        s.says("II", "a BROKEN one being MADE, no FRAME comes to be WATCHED", () -> {
            ShadowPager x = Checks.of(text);
            x.access(3, true, true);
            c.due("W", 32 + 3, x.entry(1, 3));
            x.access(17, false, false);
            c.due("broken", 2, x.shadow(2, 0));
            c.due("of 8", 8, x.shadow(2, 1));
            c.due("W stays", 32 + 3, x.entry(1, 3));
        });
        s.says("II", "All MAPS: those of BROKEN ones, too, and of a LEAF OUT OF STEP", () -> {
            ShadowPager x = Checks.of("machine pool 5 root 0;host 1 1 rw;host 5 5 rw" + word(0, 0, to(1, 7)) + word(0, 1, to(0, 7 + L)) + word(0, 2, to(5, 7))
                    + word(1, 0, to(1, 7)) + word(1, 1, to(5, 7)) + word(5, 7, to(1, 7)));
            x.access(13, true, false);
            x.access(1, true, false);
            x.store(0, 7, 0, false);
            c.due("out of step", 4, x.outOfStep());
            c.due("writers", 2, x.writers(5));
            x.access(23, false, false);
            c.due("a leaf of 5", 5, x.shadow(3, 1));
            c.due("writers", 0, x.writers(5));
            c.due("maps", 2, x.maps(5));
        });
    }

    // ---- II: stores, traps, loads

    private void stores() {
        s.says("II", "by a HIT the WORD at a place of that FRAME is just written: the first place, the last", () -> {
            ShadowPager x = Checks.of(PLAIN + ";host 5 5 rw" + word(0, 0, to(1, 7)) + word(1, 0, to(5, 7)));
            x.access(0, true, false);
            for (int i = 0; i < 8; i++) {
                c.due("store", 5, x.store(0, i, 4095 - i, true));
                c.due("word", 4095 - i, x.word(5, i));
            }
            c.due("faults", 1, x.size(6));
            c.due("traps", 0, x.size(7));
        });
        s.says("II", "by a HIT: of the FRAME that the ENTRY tells, stale or not", () -> {
            ShadowPager x = Checks.of(Texts.SELF);
            x.access(1, true, true);
            x.store(0, 1, to(6, 7), false);
            c.due("look", 6, x.look(1, true, true));
            c.due("store", 5, x.store(1, 3, 77, true));
            c.due("word", 77, x.word(5, 3));
            c.due("word", 0, x.word(6, 3));
            c.due("marks", 1 << 5 | 1 << 1, x.marks());
        });
        s.says("II", "Behind a FAULT that is DONE, too: no TRAP if that FRAME isn't WATCHED", () -> {
            ShadowPager x = Checks.of(PLAIN + ";host 5 5 rw" + word(0, 0, to(1, 7)) + word(1, 0, to(5, 7)));
            c.due("store", 5, x.store(0, 7, 4095, true));
            c.due("word", 4095, x.word(5, 7));
            c.due("traps", 0, x.size(7));
            c.due("dirty", to(5, 7 + S + D), x.word(1, 0));
            c.due("mark", 1 << 5, x.marks());
            c.due("entry", 20 + 3, x.entry(1, 0));
        });
        s.says("II", "A STORE is an ACCESS to write: a FAULT that isn't DONE writes nothing", () -> {
            ShadowPager x = Checks.of(PLAIN + ";host 5 5 ro" + word(0, 0, to(1, 7)) + word(1, 0, to(5, 7)));
            x.access(0, false, false);
            c.due("store", -3, x.store(0, 0, 9, false));
            c.due("word", 0, x.word(5, 0));
            c.due("faults", 2, x.size(6));
            c.due("mark", 0, x.marks());
        });
        s.says("II", "if that FRAME is WATCHED (the TABLES being MADE): by the LEAF that is MADE for it", () -> {
            ShadowPager x = Checks.of(Texts.SELF);
            c.due("not yet", 0, x.watched(1));
            x.store(0, 5, 9, false);
            c.due("traps", 1, x.size(7));
        });
        s.says("II", "if that FRAME is WATCHED (the TABLES being MADE): no more, if its LEAF is DROPPED by it", () -> {
            ShadowPager x = Checks.of(PLAIN + ";host 5 5 rw;host 6 6 rw" + word(0, 0, to(5, 7)) + word(0, 1, to(2, 7)) + word(0, 2, to(3, 7))
                    + word(5, 0, to(6, 7)) + word(2, 0, to(6, 7)) + word(3, 0, to(5, 7)));
            x.access(0, false, false);
            x.access(8, false, false);
            c.due("watched", 1, x.watched(5));
            c.due("store", 5, x.store(16, 0, 99, false));
            c.due("word", 99, x.word(5, 0));
            c.due("traps", 0, x.size(7));
            c.due("drops", 1, x.size(8));
            c.due("W", 20 + 3, x.entry(1, 0));
        });
    }

    private void traps() {
        s.says("II", "a LEAF of it is OUT OF STEP from then on; the WORD is written; all its ENTRIES stay", () -> {
            ShadowPager x = Checks.of(Texts.SELF);
            x.access(1, false, false);
            x.access(2, false, false);
            c.due("store", 11, x.store(0, 1, 0, false));
            c.due("word", 0, x.word(1, 1));
            c.due("out of step", 1, x.shadow(1, 2));
            c.due("entries", 7, x.shadow(1, 3));
            c.due("entry", 20 + 1, x.entry(1, 1));
        });
        s.says("II", "if the FRAME isn't WATCHED then, the ENTRY that was just told comes to have W", () -> {
            ShadowPager x = Checks.of(Texts.SELF);
            x.store(0, 7, 0, false);
            c.due("W", 4 + 3, x.entry(1, 0));
            c.due("the next is a hit", 11, x.store(0, 6, 5, true));
            c.due("traps", 1, x.size(7));
            c.due("faults", 1, x.size(6));
        });
        s.says("II", "comes to have W, whatever the WORD written says of it", () -> {
            ShadowPager x = Checks.of(Texts.SELF);
            x.store(0, 0, 0, false);
            c.due("the page's own word", 0, x.word(1, 0));
            c.due("W", 4 + 3, x.entry(1, 0));
            c.due("absent", -2, x.look(0, false, false));
            c.due("hits", 11, x.hits(0, true, true));
        });
        s.says("II", "the ENTRY that was just told, not others of the FRAME", () -> {
            ShadowPager x = Checks.of(Texts.SELF + word(1, 5, to(1, 7)) + word(0, 7, to(1, 7 + L)));
            x.access(5, true, false);
            x.access(57, true, false);
            x.store(0, 7, 0, false);
            c.due("W", 4 + 3, x.entry(1, 0));
            c.due("no W", 4 + 1, x.entry(1, 5));
            c.due("no W", 4 + 1, x.entry(2, 1));
            c.due("writers", 1, x.writers(1));
        });
        s.says("II", "a TRAP by a BROKEN one's ENTRY", () -> {
            ShadowPager x = Checks.of("machine pool 4 root 0;host 1 11 rw;host 5 5 rw" + word(0, 0, to(1, 7)) + word(0, 1, to(0, 7 + L)) + word(1, 0, to(5, 7)));
            x.access(0, false, false);
            c.due("store", 11, x.store(9, 0, 0, false));
            c.due("traps", 1, x.size(7));
            c.due("out of step", 2, x.outOfStep());
            c.due("W", 4 + 3, x.entry(2, 1));
        });
        s.says("II", "a TRAP that changes nothing of a word is one all the same", () -> {
            ShadowPager x = Checks.of(Texts.SELF);
            x.store(0, 7, 0, false);
            x.load(0);
            x.store(0, 7, 0, false);
            c.due("traps", 2, x.size(7));
            c.due("out of step", 2, x.outOfStep());
        });
    }

    private void trapsOfRoots() {
        s.says("II", "a ROOT of it has its ENTRY at that place no more", () -> {
            ShadowPager x = Checks.of(Texts.ROOTED + word(0, 7, to(1, 7)));
            x.access(57, false, false);
            c.due("entries", 128, x.shadow(0, 3));
            c.due("store", 20, x.store(0, 7, to(1, 7), false));
            c.due("traps", 1, x.size(7));
            c.due("entries", 1, x.shadow(0, 3));
            c.due("the leaf's stay", 3, x.shadow(1, 3));
            c.due("no leaf of it", 0, x.outOfStep());
            c.due("leaves", 0, x.load(0));
        });
        s.says("II", "(be it the one just told, too)", () -> {
            ShadowPager x = Checks.of(Texts.ROOTED);
            c.due("store", 20, x.store(0, 0, to(1, 7), false));
            c.due("entries", 0, x.shadow(0, 3));
            c.due("the leaf's stays", 1, x.shadow(1, 3));
            c.due("hits", -2, x.hits(0, false, false));
        });
        s.says("II", "if the FRAME isn't WATCHED then: by its ROOT it is, and no ENTRY comes to have W", () -> {
            ShadowPager x = Checks.of(Texts.ROOTED);
            x.store(0, 3, 0, false);
            c.due("watched", 1, x.watched(0));
            c.due("no W", 1, x.entry(1, 0));
            c.due("store", 20, x.store(0, 3, 9, false));
            c.due("each is a trap", 2, x.size(7));
            c.due("no hit", 0, x.rate(false));
        });
        s.says("II", "a ROOT of it, that isn't the root FRAME's", () -> {
            ShadowPager x = Checks.of("machine pool 5 root 3;host 3 3 rw;host 5 5 rw" + word(3, 0, to(1, 7)) + word(1, 0, to(5, 7)) + word(0, 0, to(2, 7)) + word(2, 0, to(3, 7)));
            x.access(0, false, false);
            x.load(0);
            c.due("store", 3, x.store(0, 0, 0, false));
            c.due("traps", 1, x.size(7));
            c.due("the entry of the root of 3", 0, x.shadow(0, 3));
            c.due("no W", 12 + 1, x.entry(3, 0));
        });
        s.says("II", "a ROOT and a LEAF of it", () -> {
            ShadowPager x = Checks.of(PLAIN + ";host 0 3 rw" + word(0, 0, 7) + word(0, 1, 7));
            x.access(8, false, false);
            c.due("store", 3, x.store(0, 1, 7, false));
            c.due("the root's entry", 1, x.shadow(0, 3));
            c.due("out of step", 2, x.outOfStep());
            c.due("watched", 1, x.watched(0));
            c.due("no W", 1, x.entry(1, 0));
            c.due("store", 3, x.store(0, 1, 7, false));
            c.due("a trap again, the leaf out of step", 2, x.size(7));
        });
    }

    /** What of page 1's entry, told by an access to write or not, as user or not, a load leaves, its word written anew. */
    private int broughtBack(boolean write, boolean user, int after) {
        int before = to(5, P + (write ? W : 0) + (user ? U : 0));
        ShadowPager x = Checks.of("machine pool 4 root 0;host 1 11 rw;host 5 5 rw;host 6 6 rw" + word(0, 0, to(1, 7)) + word(1, 0, to(1, 7)) + word(1, 1, before));
        int told = 20 + (write ? 2 : 0) + (user ? 1 : 0);
        x.access(1, write, user);
        c.due("as told", told, x.entry(1, 1));
        x.store(0, 1, after, false);
        c.due("as told, until the load", told, x.entry(1, 1));
        c.due("leaves", 1, x.load(0));
        return x.entry(1, 1);
    }

    private void loads() {
        s.says("II", "ENTRIES whose WORD isn't PRESENT are there no more", () -> {
            c.due("entry", -2, broughtBack(true, true, 0));
            c.due("entry", -2, broughtBack(true, true, to(5, 62)));
            c.due("entry", -2, broughtBack(false, false, to(5, 62)));
        });
        s.says("II", "or tells another FRAME", () -> {
            c.due("entry", -2, broughtBack(true, true, to(6, 7 + D)));
            c.due("entry", -2, broughtBack(true, true, to(4, 7 + D)));
            c.due("entry", -2, broughtBack(true, true, to(13, 7 + D)));
            c.due("entry", -2, broughtBack(false, false, to(0, P)));
        });
        s.says("II", "of others U goes if it has no USER", () -> {
            c.due("W stays", 20 + 2, broughtBack(true, true, to(5, P + W + D)));
            c.due("no W was", 20, broughtBack(false, true, to(5, P + W + D)));
        });
        s.says("II", "W if it lacks WRITE or DIRTY", () -> {
            c.due("WRITE", 20 + 1, broughtBack(true, true, to(5, P + U + D)));
            c.due("DIRTY", 20 + 1, broughtBack(true, true, to(5, P + U + W)));
            c.due("WRITE, no U was", 20, broughtBack(true, false, to(5, P + U + D)));
            c.due("both, USER too", 20, broughtBack(true, true, to(5, P)));
        });
        s.says("II", "of others: what it has all stays, SEEN no matter, nor LARGE, 64, 128", () -> {
            c.due("both", 20 + 3, broughtBack(true, true, to(5, P + W + U + D)));
            c.due("both", 20 + 3, broughtBack(true, true, to(5, 255)));
            c.due("W alone", 20 + 2, broughtBack(true, false, to(5, P + W + D)));
            c.due("U alone", 20 + 1, broughtBack(false, true, to(5, P + U)));
            c.due("none", 20, broughtBack(false, false, to(5, P)));
        });
        s.says("II", "U and W go, they never come", () -> {
            c.due("neither", 20, broughtBack(false, false, to(5, P + W + U + D)));
            c.due("no W", 20 + 1, broughtBack(false, true, to(5, P + W + U + D)));
            c.due("no U", 20 + 2, broughtBack(true, false, to(5, P + W + U + D)));
        });
        s.says("II", "of each that was: all eight ENTRIES, the first and the last", () -> {
            for (int kept = 0; kept < 8; kept++) {
                ShadowPager x = eightByPage8();
                for (int i = 0; i < 8; i++) {
                    x.store(8, i, i == kept ? to(5, P) : 0, false);
                }
                c.due("entries", 255, x.shadow(2, 3));
                c.due("leaves", 1, x.load(0));
                c.due("entries", 1 << kept, x.shadow(2, 3));
            }
        });
        s.says("II", "Behind a LOAD of a root FRAME (the same, too) no LEAF is OUT OF STEP", () -> {
            for (int f : new int[] {0, 1, 15}) {
                ShadowPager x = Checks.of(Texts.SELF);
                x.store(0, 7, 0, false);
                c.due("leaves", 1, x.load(f));
                c.due("out of step", 0, x.outOfStep());
                c.due("watched", 1, x.watched(1));
                c.due("root", f, x.root());
                c.due("leaves", 0, x.load(f));
            }
        });
        s.says("II", "when all are so, MAPS of FRAMES that are WATCHED lose W", () -> {
            ShadowPager x = Checks.of("machine pool 4 root 0;host 1 11 rw;host 5 5 rw" + word(0, 0, to(1, 7)) + word(0, 1, to(0, 7 + L)) + word(1, 0, to(1, 7)) + word(1, 1, to(5, 7)));
            x.access(1, true, true);
            x.store(0, 7, 0, false);
            c.due("a hit", 11, x.store(0, 7, 1, false));
            c.due("access", 11, x.access(9, true, false));
            c.due("W, of a leaf and of a broken one", 2, x.writers(1));
            x.load(0);
            c.due("none", 0, x.writers(1));
            c.due("maps", 2, x.maps(1));
            c.due("of a frame that isn't watched it stays", 1, x.writers(5));
        });
        s.says("II", "when all are so: of two LEAVES that tell one another", () -> {
            ShadowPager x = Checks.of("machine pool 5 root 0;host 1 1 rw;host 2 2 rw" + word(0, 0, to(1, 7)) + word(0, 1, to(2, 7)) + word(1, 0, to(2, 7)) + word(2, 0, to(1, 7)));
            x.access(8, false, false);
            x.store(0, 7, 0, false);
            x.store(8, 7, 0, false);
            c.due("out of step", 6, x.outOfStep());
            c.due("writers", 1, x.writers(1));
            c.due("writers", 1, x.writers(2));
            c.due("leaves", 2, x.load(0));
            c.due("writers", 0, x.writers(1));
            c.due("writers", 0, x.writers(2));
        });
        s.says("II", "a LOAD leaves ROOTS, and what they tell, as they are", () -> {
            ShadowPager x = Checks.of(Texts.SELF);
            x.access(1, true, true);
            x.store(0, 7, 0, false);
            x.load(9);
            c.due("root of 0", 0, x.shadow(0, 1));
            c.due("entry", 4 + 3, x.entry(0, 0));
            c.due("no root of 9", 2, x.led(0));
            c.due("a load of the frame", 0, x.load(0));
            c.due("it hits again", 5, x.hits(1, true, true));
        });
    }

    /** Pages 16 to 23 lead to frame 5 by the leaf of frame 2, table 2, and are there; page 8 leads to that frame. */
    private ShadowPager eightByPage8() {
        ShadowPager x = Checks.of("machine pool 4 root 0;host 2 2 rw;host 5 5 rw" + word(0, 1, to(1, 7)) + word(0, 2, to(2, 7)) + word(1, 0, to(2, 7))
                + Texts.lines("word 2 # 1281", 0, 8));
        x.access(8, false, false);
        for (int i = 0; i < 8; i++) {
            x.access(16 + i, false, false);
        }
        c.due("a leaf of 2", 2, x.shadow(2, 1));
        return x;
    }

    // ---- II: numbers that are 0, or the last

    private void hostFrame0() {
        String text = PLAIN + ";host 1 1 rw;host 5 0 rw" + word(0, 0, to(1, 7)) + word(1, 0, to(1, 7)) + word(1, 1, to(5, 7));
        s.says("II", "Else DONE: the host frame, be it 0", () -> {
            ShadowPager x = Checks.of(text + ";run 1 w;run 1 r;saw 1 w done;saw 1 r denied");
            looks(x, 1, 0, 0, 0, 0);
            c.due("rights", 15, x.rights(1));
            c.due("missing", 8, x.missing());
            c.due("access", 0, x.access(1, true, true));
            c.due("hits", 0, x.hits(1, true, true));
            c.due("missing", 4, x.missing());
            c.due("access", 0, x.access(1, true, true));
            c.due("faults", 1, x.size(6));
            c.due("a hit", 1, x.rate(false));
            c.due("run", 1, x.runFaults(3));
            c.due("none of it isn't done", 0, x.runRefused(3));
            c.due("judge", 1, x.judge());
        });
        s.says("II", "A STORE to the host frame 0: by a HIT, behind a FAULT", () -> {
            ShadowPager x = Checks.of(text);
            c.due("behind a fault", 0, x.store(1, 7, 9, true));
            c.due("word", 9, x.word(5, 7));
            c.due("by a hit", 0, x.store(1, 6, 8, true));
            c.due("word", 8, x.word(5, 6));
        });
        s.says("III", "STALE: HARDWARE HITS the host frame 0", () -> {
            ShadowPager x = Checks.of(text);
            x.access(1, true, true);
            x.store(0, 1, 0, false);
            c.due("stale", 4, x.stale());
            c.due("staleAt", 1, x.staleAt());
        });
    }

    /** By root 1, page 0 leads to frame 0 without any right, page 1 to the leaf's own frame: entry (1, 0) is 0. */
    private ShadowPager entryOf0() {
        ShadowPager x = Checks.of("machine pool 4 root 1;host 0 3 rw;host 2 2 rw" + word(1, 0, to(2, 7)) + word(2, 0, to(0, P)) + word(2, 1, to(2, 7)));
        c.due("access", 3, x.access(0, false, false));
        c.due("entry", 0, x.entry(1, 0));
        return x;
    }

    private void frame0() {
        s.says("II", "an ENTRY that tells FRAME 0 without W, U is there", () -> {
            c.due("entries", 1, entryOf0().shadow(1, 3));
            c.due("maps", 1, entryOf0().maps(0));
            c.due("hits", 3, entryOf0().hits(0, false, false));
            c.due("flush", 1, entryOf0().flush(0));
            c.due("device", 1, entryOf0().device(2, 0, 0));
            c.due("unmap", 1, entryOf0().unmap(0));
        });
        s.says("II", "an ENTRY that tells FRAME 0, brought back", () -> {
            ShadowPager x = entryOf0();
            x.store(1, 0, 0, false);
            c.due("leaves", 1, x.load(1));
            c.due("not present", -2, x.entry(1, 0));
            x = entryOf0();
            x.store(1, 0, to(0, P + W + U + D), false);
            x.load(1);
            c.due("it stays", 0, x.entry(1, 0));
        });
        s.says("II", "an ENTRY that isn't there doesn't come by a LOAD, though its WORD tells FRAME 0", () -> {
            ShadowPager x = entryOf0();
            x.store(1, 3, to(0, P + W + U + D), false);
            x.load(1);
            c.due("entry", -2, x.entry(1, 3));
            c.due("entries", 3, x.shadow(1, 3));
        });
        s.says("II", "the ENTRY that was just told comes to have W: of FRAME 0, and no U", () -> {
            ShadowPager x = Checks.of("machine pool 4 root 1;host 0 3 rw" + word(1, 0, to(0, 7)) + word(0, 0, to(0, P + W)));
            c.due("store", 3, x.store(0, 7, 0, false));
            c.due("entry", 2, x.entry(1, 0));
            c.due("hits to write", 3, x.hits(0, true, false));
            c.due("as user", -2, x.hits(0, false, true));
        });
        s.says("II", "when all are so, MAPS of FRAMES that are WATCHED lose W: FRAME 0, FRAME 15", () -> {
            for (int f : new int[] {0, 15}) {
                ShadowPager x = Checks.of("machine pool 4 root 1;host " + f + " 3 rw" + word(1, 0, to(f, 7)) + word(f, 0, to(f, 7)));
                x.store(0, 7, 0, false);
                c.due("W", 4 * f + 3, x.entry(1, 0));
                x.load(1);
                c.due("no W", 4 * f + 1, x.entry(1, 0));
            }
        });
    }

    /** The leaf of frame 2 is table 0, told without W and U by the root of 3 at place 1, and with both at place 2. */
    private ShadowPager leafAsTable0() {
        ShadowPager x = Checks.of(PLAIN + ";host 2 2 rw;host 5 5 rw" + word(0, 0, to(1, 7)) + word(1, 0, to(5, 7)) + word(3, 0, to(1, 7)) + word(3, 1, to(2, P))
                + word(3, 2, to(2, 7)) + word(2, 0, to(5, 7)) + word(2, 1, to(2, 7)));
        x.access(0, false, false);
        x.load(3);
        x.access(0, false, false);
        x.access(8, false, false);
        c.due("a leaf", 1, x.shadow(0, 0));
        c.due("of 2", 2, x.shadow(0, 1));
        c.due("the root's entry", 0, x.entry(2, 1));
        return x;
    }

    private void table0() {
        s.says("II", "a LEAF that is table 0 is one: WATCHED, told, hit", () -> {
            ShadowPager x = leafAsTable0();
            c.due("watched", 1, x.watched(2));
            c.due("told by", 1, x.shadow(0, 5));
            hits(x, 8, 5, -2, -2, -2);
            c.due("entries of the root", 3, x.shadow(2, 3));
            c.due("maps", 2, x.maps(5));
            c.due("no other leaf is made", 5, x.access(16, true, true));
            c.due("entry", 20 + 3, x.entry(0, 0));
            c.due("drops", 1, x.size(8));
        });
        s.says("II", "a LEAF that is table 0: its ENTRIES go like others", () -> {
            c.due("flush", 1, leafAsTable0().flush(8));
            c.due("device", 1, leafAsTable0().device(2, 0, 0));
            c.due("unmap", 2, leafAsTable0().unmap(5));
            ShadowPager x = leafAsTable0();
            x.access(16, true, true);
            c.due("protect", 1, x.protect(5));
            c.due("entry", 20 + 1, x.entry(0, 0));
            x.undo();
            c.due("clean", 1, x.clean(5));
            c.due("entry", 20 + 1, x.entry(0, 0));
        });
        s.says("II", "a LEAF that is table 0 is OUT OF STEP, and brought back", () -> {
            ShadowPager x = leafAsTable0();
            c.due("store", 2, x.store(17, 0, 0, false));
            c.due("traps", 1, x.size(7));
            c.due("out of step", 1, x.outOfStep());
            c.due("W", 8 + 3, x.entry(0, 1));
            c.due("device", 0, x.device(2, 0, 0));
            c.due("leaves", 1, x.load(3));
            c.due("out of step", 0, x.outOfStep());
            c.due("not present", -2, x.entry(0, 0));
            c.due("watched: no W", 8 + 1, x.entry(0, 1));
        });
    }

    /** A pool of eight, full: seven leaves of eight entries each, that all tell frame 15. */
    private ShadowPager fullPool() {
        ShadowPager x = Checks.of("machine pool 8 root 0;host 15 0 ro" + Texts.lines("host # # rw", 1, 8) + Texts.sevenLeaves() + word(0, 7, to(8, 7)) + word(8, 0, to(15, 7)));
        for (int f = 1; f <= 7; f++) {
            for (int i = 1; i < 8; i++) {
                x.device(f, i, to(15, P));
            }
        }
        for (int v = 0; v < 56; v++) {
            x.access(v, false, false);
        }
        c.due("maps", 56, x.maps(15));
        return x;
    }

    private void everyTable() {
        s.says("II", "DROPPED: its ENTRIES are there no more, those of no other: each table in turn", () -> {
            ShadowPager x = fullPool();
            int[] pages = {56, 0, 8, 16, 24, 32, 40};
            for (int k = 0; k < 7; k++) {
                c.due("dropsNext", k + 1, x.dropsNext());
                x.access(pages[k], false, false);
                for (int n = 1; n < 8; n++) {
                    c.due("entries of " + n, n <= k + 1 ? 1 : 255, x.shadow(n, 3));
                }
                c.due("maps", 56 - 7 * (k + 1), x.maps(15));
            }
        });
        s.says("II", "DROPPED: the ENTRIES of LEAVES that tell a FRAME of the table's number stay", () -> {
            ShadowPager x = Checks.of(PLAIN + ";host 1 1 rw;host 5 5 rw" + word(0, 0, to(3, 7)) + word(0, 1, to(2, 7)) + word(0, 2, to(4, 7)) + word(3, 0, to(5, 7))
                    + Texts.lines("word 2 # 257", 0, 8) + word(4, 3, to(5, 7)));
            x.access(0, false, false);
            for (int v = 8; v < 16; v++) {
                x.access(v, false, false);
            }
            c.due("told by the root alone", 1, x.shadow(1, 5));
            x.access(19, false, false);
            c.due("leaf of 4", 4, x.shadow(1, 1));
            c.due("its entry alone", 8, x.shadow(1, 3));
            c.due("entries of the other leaf", 255, x.shadow(2, 3));
            c.due("entries of the root", 2 + 4, x.shadow(0, 3));
        });
        s.says("II", "each of 8 ENTRIES: the last one of the last of eight tables, table 0 being a ROOT", () -> {
            ShadowPager x = fullPool();
            x.device(7, 7, to(1, 7));
            x.access(55, false, false);
            c.due("entry", 4 + 1, x.entry(7, 7));
            c.due("table 1 is told by the root alone", 1, x.shadow(1, 5));
            c.due("maps", 1, x.maps(1));
            x.access(56, false, false);
            c.due("table 1 is another leaf", 8, x.shadow(1, 1));
            c.due("entry", 4 + 1, x.entry(7, 7));
        });
        s.says("II", "each of 8 ENTRIES: the last one of the last of eight tables, table 0 being a LEAF", () -> {
            ShadowPager x = Checks.of("machine pool 8 root 9;host 15 15 rw" + Texts.sevenLeaves() + word(9, 0, to(1, P)) + word(6, 7, to(15, 7)));
            x.access(0, false, false);
            x.load(0);
            for (int k = 0; k < 7; k++) {
                x.access(8 * k, false, false);
            }
            c.due("the leaf of 7 took the other root's place", 7, x.shadow(0, 1));
            x.access(47, true, true);
            c.due("entry", 60 + 3, x.entry(7, 7));
            c.due("maps", 8, x.maps(15));
            c.due("writers", 1, x.writers(15));
            c.due("clean", 1, x.clean(15));
            x.undo();
            c.due("protect", 1, x.protect(15));
            c.due("entry", 60 + 1, x.entry(7, 7));
            c.due("unmap", 8, x.unmap(15));
        });
        s.says("II", "a TRAP, a DEVICE without a ROOT of the FRAME takes no ENTRY of any other table", () -> {
            ShadowPager x = fullPool();
            for (int i = 0; i < 8; i++) {
                c.due("device", 0, x.device(15, i, 0));
            }
            c.due("maps", 56, x.maps(15));
            for (int i = 1; i < 8; i++) {
                c.due("device", 1, x.device(5, i, to(5, P + W)));
            }
            c.due("access", 5, x.access(33, false, false));
            c.due("store", 5, x.store(33, 0, 0, false));
            c.due("traps", 1, x.size(7));
            c.due("out of step", 1 << 5, x.outOfStep());
            c.due("W", 20 + 2, x.entry(5, 1));
            c.due("maps", 56 - 7, x.maps(15));
            c.due("entries of the root", 127, x.shadow(0, 3));
        });
    }

    private void rightsOfMaps() {
        String text = PLAIN + ";host 5 5 rw" + word(0, 0, to(1, 7)) + word(1, 0, to(5, P + W)) + word(1, 1, to(5, P)) + word(1, 2, to(5, P + U));
        s.says("II", "MAPS of a FRAME: with W alone, without W and U, with U alone", () -> {
            for (int call = 0; call < 2; call++) {
                ShadowPager x = Checks.of(text);
                x.access(0, true, false);
                x.access(1, false, false);
                x.access(2, false, true);
                c.due("W", 20 + 2, x.entry(1, 0));
                c.due("none", 20, x.entry(1, 1));
                c.due("U", 20 + 1, x.entry(1, 2));
                c.due("maps", 3, x.maps(5));
                c.due("writers", 1, x.writers(5));
                c.due("loses W", 1, call == 0 ? x.protect(5) : x.clean(5));
                c.due("W is lost", 20, x.entry(1, 0));
                c.due("none", 20, x.entry(1, 1));
                c.due("U stays", 20 + 1, x.entry(1, 2));
            }
        });
    }

    // ---- III

    private void staleAndMissing() {
        s.says("III", "STALE: a PAGE by one MODE alone: the first PAGE, one between", () -> {
            ShadowPager x = Checks.of(PLAIN + ";host 1 1 rw;host 5 5 rw" + word(0, 0, to(1, 7)) + word(1, 7, to(1, 7)) + word(1, 0, to(5, P)));
            x.access(0, false, false);
            x.store(7, 0, 0, false);
            c.due("stale, page 0 to read", 1, x.stale());
            c.due("staleAt", 0, x.staleAt());
            ShadowPager y = Checks.of(PLAIN + ";host 1 1 rw;host 5 5 rw" + word(0, 0, to(1, 7)) + word(1, 0, to(1, 7)) + word(1, 7, to(5, P + U)));
            y.access(7, false, true);
            y.store(0, 7, to(5, P), false);
            c.due("stale, page 7 as user", 1, y.stale());
            c.due("staleAt", 7, y.staleAt());
        });
        s.says("III", "HARDWARE HITS, and LOOK isn't DONE: ABSENT, DENIED by some MODES, GONE", () -> {
            int[] words = {0, to(5, P + W + U), to(5, P + W), to(5, P + U), to(5, P), to(9, 7)};
            int[] due = {4, 0, 2, 2, 3, 4};
            for (int i = 0; i < words.length; i++) {
                ShadowPager x = Checks.of(Texts.SELF);
                x.access(1, true, true);
                x.store(0, 1, words[i], false);
                c.due("stale", due[i], x.stale());
                c.due("staleAt", due[i] == 0 ? -2 : 1, x.staleAt());
            }
        });
        s.says("III", "or tells another host frame; the same again isn't stale", () -> {
            ShadowPager x = Checks.of(Texts.SELF);
            x.access(1, false, false);
            x.store(0, 1, to(6, 7), false);
            c.due("stale, to read alone and as user", 2, x.stale());
            x.store(0, 1, to(5, 7), false);
            c.due("not stale", 0, x.stale());
        });
        s.says("III", "MISSING: by which LOOK is DONE, and HARDWARE doesn't HIT: by some MODES", () -> {
            ShadowPager x = Checks.of(PLAIN + ";host 5 5 rw" + word(0, 0, to(1, 7)) + word(1, 0, to(5, 7)) + word(1, 1, to(5, P)));
            c.due("missing", 5, x.missing());
            x.access(0, false, false);
            c.due("missing, to write", 3, x.missing());
            x.access(0, true, false);
            c.due("missing", 1, x.missing());
            x.access(1, false, false);
            c.due("missing", 0, x.missing());
        });
        s.says("III", "sets of unsure WORDS that were the other ones: one that is the same as told", () -> {
            ShadowPager x = Checks.of(PLAIN + word(0, 0, 33) + ";unsure 0 0 33;saw 0 r gone");
            c.due("fits", 2, x.fits());
            c.due("could", 1, x.could());
            c.due("surely", 0, x.surely());
        });
    }

    private void sweepsFromNow() {
        s.says("III", "from NOW on: by the pool there is, whatever a RUN was told by", () -> {
            ShadowPager x = Checks.of("machine pool 8 root 0;host 15 0 ro" + Texts.sevenLeaves() + ";run 0 r");
            x.access(8, false, false);
            x.runFaults(3);
            c.due("page 8 is there yet", 8, x.sweep(0, 8));
            ShadowPager y = Checks.of(Texts.LEAVES);
            y.access(16, false, false);
            y.access(24, false, false);
            y.runFaults(8);
            c.due("page 16 is there no more", 17, y.sweep(0, 16));
        });
        s.says("III", "from NOW on: the TABLE MADE longest ago is DROPPED first, one MADE since the last", () -> {
            ShadowPager x = Checks.of(Texts.LEAVES);
            x.access(24, false, false);
            x.access(16, false, false);
            c.due("both are dropped", 25, x.sweep(0, 24));
            c.due("the first alone is", 16, x.sweep(8, 24));
        });
    }

    /** The frames that a seed's draws mark, when page v leads to a frame told by its place and its part of eight. */
    private static int drawnMarks(int seed, int n) {
        long now = seed;
        int marks = 0;
        for (int i = 0; i < n; i++) {
            now = (75 * now + 74) % 65537;
            int v = (int) (now % 64);
            now = (75 * now + 74) % 65537;
            if (now % 4 == 1 || now % 4 == 3) {
                marks |= 1 << v / 8 % 2 * 8 + v % 8;
            }
        }
        return marks;
    }

    private void draws() {
        StringBuilder text = new StringBuilder(PLAIN + Texts.lines("host # # rw", 0, 16));
        for (int i = 0; i < 8; i++) {
            text.append(word(0, i, to(8 * (i % 2), 7 + L)));
        }
        s.says("III", "SEED becomes (75 times SEED and 74) mod 65,537: around its end, and at its ends", () -> {
            for (int seed : new int[] {0, 1, 2, 872, 873, 874, 875, 1747, 30000, 65461, 65534, 65535, 65536}) {
                for (int n : new int[] {0, 1, 2, 3, 10, 200}) {
                    ShadowPager x = Checks.of(text.toString());
                    c.due("drawnMarks " + seed + ", " + n, drawnMarks(seed, n), x.drawnMarks(seed, n));
                }
            }
        });
        s.says("III", "n ACCESSES from NOW on", () -> {
            ShadowPager x = Checks.of(text.toString());
            x.device(15, 7, 0);
            c.due("with those now", 1 << 15 | drawnMarks(874, 4), x.drawnMarks(874, 4));
            x.load(9);
            c.due("no table now", 1 << 15, x.drawnMarks(874, 200));
            c.due("all fault", 200, x.drawnFaults(874, 200));
        });
    }

    private void flushes() {
        s.says("III", "FLUSH: a PAGE's ENTRY in the TABLE its ROOT's ENTRY tells is there no more", () -> {
            ShadowPager x = Checks.of(PLAIN + ";host 5 5 rw" + word(0, 0, to(1, 7)) + word(0, 7, to(1, 7)) + word(1, 0, to(5, 7)) + word(1, 7, to(5, 7)));
            x.access(0, false, false);
            x.access(63, false, false);
            c.due("entries", 129, x.shadow(1, 3));
            c.due("flush", 1, x.flush(56));
            c.due("that one", 128, x.shadow(1, 3));
            c.due("the root's stay", 129, x.shadow(0, 3));
            c.due("page 0 goes by the same entry", 0, x.flush(0));
            c.due("flush", 1, x.flush(63));
            c.due("none", 0, x.shadow(1, 3));
        });
        s.says("III", "FLUSH: of a BROKEN one, and of a LEAF OUT OF STEP, that stays so", () -> {
            ShadowPager x = Checks.of(Texts.SELF + word(0, 1, to(5, 7 + L)));
            x.access(13, false, false);
            c.due("flush", 1, x.flush(13));
            c.due("flush", 0, x.flush(13));
            x.store(0, 7, 0, false);
            c.due("flush", 1, x.flush(0));
            c.due("out of step", 4, x.outOfStep());
        });
    }

    private void devices() {
        s.says("III", "DEVICE (writes a WORD of a backed FRAME, past all watching: its MARK is set", () -> {
            ShadowPager x = Checks.of(Texts.SELF);
            x.access(1, true, false);
            c.due("device", 1, x.device(1, 1, 0));
            c.due("word", 0, x.word(1, 1));
            c.due("marks", 1 << 1 | 1 << 5, x.marks());
            c.due("no trap", 0, x.size(7));
            c.due("in step", 0, x.outOfStep());
            c.due("faults", 1, x.size(6));
        });
        s.says("III", "DEVICE: a FRAME that is ro, too", () -> {
            ShadowPager x = Checks.of(PLAIN + ";host 6 6 ro");
            c.due("device", 0, x.device(6, 0, 4095));
            c.due("word", 4095, x.word(6, 0));
            c.due("marks", 1 << 6, x.marks());
        });
        s.says("III", "ROOTS of it, and LEAVES that aren't OUT OF STEP, have their ENTRY at that place no more", () -> {
            ShadowPager x = Checks.of(PLAIN + ";host 0 3 rw;host 5 5 rw" + word(0, 0, 7) + word(0, 1, 7) + word(0, 2, to(5, 7)));
            x.access(2, false, false);
            x.access(8, false, false);
            c.due("root", 3, x.shadow(0, 3));
            c.due("leaf", 5, x.shadow(1, 3));
            c.due("at the root's place", 1, x.device(0, 1, 7));
            c.due("root", 1, x.shadow(0, 3));
            c.due("at the leaf's place", 1, x.device(0, 2, 7));
            c.due("leaf", 1, x.shadow(1, 3));
            c.due("at both", 2, x.device(0, 0, 7));
            c.due("at none", 0, x.device(0, 0, 7));
        });
        s.says("III", "LEAVES that aren't OUT OF STEP: one that is keeps its ENTRY", () -> {
            ShadowPager x = Checks.of(Texts.SELF);
            x.access(1, false, false);
            x.store(0, 7, 0, false);
            c.due("device", 0, x.device(1, 1, 0));
            c.due("entry", 20 + 1, x.entry(1, 1));
        });
        s.says("III", "DEVICE: the ENTRIES of a BROKEN one, and MAPS of the FRAME, stay", () -> {
            ShadowPager x = Checks.of("machine pool 4 root 1;host 0 0 rw;host 8 8 rw" + word(1, 0, to(0, 7 + L)) + word(1, 1, to(8, 7 + L)));
            x.access(0, true, false);
            x.access(8, true, false);
            c.due("device", 0, x.device(0, 0, 0));
            c.due("device", 0, x.device(8, 0, 0));
            c.due("entry", 3, x.entry(1, 0));
            c.due("entry", 35, x.entry(2, 0));
        });
        s.says("III", "DEVICE: a ROOT of it that isn't the root FRAME's", () -> {
            ShadowPager x = Checks.of(Texts.BASE + ";host 0 0 ro");
            x.access(0, false, false);
            x.load(9);
            c.due("device", 1, x.device(0, 0, 0));
            c.due("entries", 0, x.shadow(0, 3));
        });
    }

    private void unmapsAndGives() {
        s.says("III", "UNMAP (it is backed no more, ro or rw no matter, its MAPS are there no more, its MARK stays)", () -> {
            ShadowPager x = Checks.of("machine pool 5 root 0;host 1 1 rw;host 5 5 rw;host 6 6 ro" + word(0, 0, to(1, 7)) + word(0, 1, to(5, 7 + L)) + word(1, 0, to(1, 7))
                    + word(1, 1, to(5, 7)) + word(1, 2, to(6, 7)) + word(3, 0, to(1, 7)));
            x.access(13, true, false);
            x.access(1, true, false);
            x.access(2, false, false);
            x.store(0, 7, 0, false);
            x.load(3);
            x.store(0, 7, 1, false);
            c.due("out of step", 4, x.outOfStep());
            c.due("of a broken one and a leaf out of step", 2, x.unmap(5));
            c.due("maps", 0, x.maps(5));
            c.due("of another frame it stays", 1, x.maps(6));
            c.due("backing", -2, x.backing(5));
            c.due("writes", 0, x.writes(5));
            c.due("marks", 1 << 5 | 1 << 1, x.marks());
            c.due("ro", 1, x.unmap(6));
        });
        s.says("III", "UNMAP: a FRAME of tables: its WORDS are read all the same, its TABLES stay", () -> {
            ShadowPager x = Checks.of(Texts.SELF);
            x.access(1, true, true);
            c.due("unmap", 0, x.unmap(1));
            c.due("hits", 5, x.hits(1, true, true));
            c.due("watched", 1, x.watched(1));
            c.due("look", 5, x.look(1, true, true));
        });
        s.says("III", "GIVE (backing, its MARK not set)", () -> {
            ShadowPager x = Checks.of(Texts.BASE);
            x.access(0, true, false);
            x.unmap(2);
            c.due("marks", 4, x.marks());
            c.due("give", true, x.give(2, 10, true));
            c.due("marks", 0, x.marks());
            c.due("no map comes back", 0, x.maps(2));
            x.access(0, false, false);
            c.due("dirty, but no mark: no W", 8 + 1, x.entry(1, 0));
        });
        s.says("III", "GIVE: ro or rw as given, whatever it was", () -> {
            for (boolean rw : new boolean[] {true, false}) {
                for (int f : new int[] {2, 3}) {
                    ShadowPager x = Checks.of(Texts.BASE);
                    x.unmap(f);
                    x.give(f, 20, rw);
                    c.due("writes", rw ? 1 : 0, x.writes(f));
                }
            }
        });
    }

    private void protectsAndCleans() {
        s.says("III", "PROTECT (ro; its MAPS lose W)", () -> {
            ShadowPager x = Checks.of("machine pool 4 root 0;host 5 5 rw;host 6 6 rw" + word(0, 0, to(1, 7)) + word(0, 1, to(5, 7 + L)) + word(1, 0, to(5, 7))
                    + word(1, 1, to(6, 7)));
            x.access(0, true, false);
            x.access(1, true, false);
            x.access(13, true, false);
            c.due("protect", 2, x.protect(5));
            c.due("writes", 0, x.writes(5));
            c.due("maps", 2, x.maps(5));
            c.due("writers", 0, x.writers(5));
            c.due("of another frame", 1, x.writers(6));
            c.due("marks", 1 << 5 | 1 << 6, x.marks());
            c.due("denied", -3, x.access(0, true, false));
            c.due("to read", 5, x.access(0, false, false));
        });
        s.says("III", "CLEAN (its MARK goes; its MAPS lose W)", () -> {
            ShadowPager x = Checks.of("machine pool 4 root 0;host 5 5 rw;host 6 6 rw" + word(0, 0, to(1, 7)) + word(0, 1, to(5, 7 + L)) + word(1, 0, to(5, 7))
                    + word(1, 1, to(6, 7)));
            x.access(0, true, false);
            x.access(1, true, false);
            x.access(13, true, false);
            c.due("clean", 1, x.clean(5));
            c.due("marks", 1 << 6, x.marks());
            c.due("writers", 0, x.writers(5));
            c.due("maps", 2, x.maps(5));
            c.due("of another frame", 1, x.writers(6));
            c.due("rw yet", 1, x.writes(5));
            c.due("to write is a fault", 5, x.access(0, true, false));
            c.due("faults", 4, x.size(6));
            c.due("marks", 1 << 5 | 1 << 6, x.marks());
        });
    }

    private void undoing() {
        s.says("III", "UNDO: the latest: of each sort of ACT all is as ahead of it", () -> {
            Sentences.Call[] acts = {x -> x.access(2, true, false), x -> x.access(16, false, false), x -> x.store(0, 3, 9, false), x -> x.store(0, 0, 9, false),
                x -> x.load(0), x -> x.load(3), x -> x.flush(1), x -> x.device(1, 1, 0), x -> x.unmap(5), x -> Sentences.bit(x.give(0, 0, true)),
                x -> x.protect(5), x -> x.clean(5), x -> x.access(63, false, false), x -> x.clean(9)};
            for (Sentences.Call act : acts) {
                ShadowPager x = full();
                ShadowPager y = full();
                act.on(x);
                c.due("undo", true, x.undo());
                c.due("all is as it was", true, Sentences.scene(x).equals(Sentences.scene(y)));
                c.due("acts", y.size(9), x.size(9));
            }
        });
    }

    private void goingBack() {
        s.says("III", "IMAGES: gone back to one, all is as by it, and by the next one", () -> {
            ShadowPager x = full();
            ShadowPager y = full();
            x.image();
            x.access(16, true, true);
            x.load(3);
            x.image();
            y.access(16, true, true);
            y.load(3);
            x.unmap(5);
            x.device(1, 1, 0);
            c.due("back", true, x.back(1));
            c.due("all is as by it", true, Sentences.scene(x).equals(Sentences.scene(y)));
            c.due("back", true, x.back(0));
            c.due("all is as by it", true, Sentences.scene(x).equals(Sentences.scene(full())));
        });
    }

    /** A pool that is full, a leaf out of step, marks, writers. */
    private static ShadowPager full() {
        ShadowPager x = Checks.of("machine pool 3 root 0;host 1 1 rw;host 2 2 rw;host 5 5 rw" + word(0, 0, to(1, 7)) + word(0, 1, to(2, 7)) + word(0, 2, to(3, 7))
                + word(1, 0, to(1, 7)) + word(1, 1, to(5, 7)) + word(1, 2, to(2, 7)) + word(2, 0, to(5, 7)) + word(3, 0, to(5, 7)));
        x.access(1, true, true);
        x.access(8, true, true);
        x.store(0, 7, 0, false);
        return x;
    }
}
