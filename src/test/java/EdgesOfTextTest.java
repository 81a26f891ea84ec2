/** The text of a machine: the first of the terms and promises 2 to 5, sentence by sentence. */
public final class EdgesOfTextTest {
    private static final String PLAIN = Texts.PLAIN;
    private static final int LATIN = 256;

    private final Sentences s = new Sentences();
    private final Checks c = s.c;

    public static void main(String[] args) {
        EdgesOfTextTest t = new EdgesOfTextTest();
        t.tape();
        t.blanks();
        t.tokens();
        t.linesAndTheirEnds();
        t.machineLine();
        t.hostLine();
        t.wordLine();
        t.runLine();
        t.unsureLine();
        t.sawLine();
        t.faultsOfForm();
        t.faultsOfThree();
        t.faultsOfBoundsManyAndLacks();
        t.whichFaultFirst();
        t.feed();
        t.machine();
        t.machineRefused();
        t.fault();
        t.where();
        t.s.end();
    }

    /** A text is read: its pool, no fault. */
    private ShadowPager reads(String text, int pool) {
        ShadowPager x = new ShadowPager();
        c.due("machine of " + text, pool, Checks.read(x, text));
        c.due("trouble()", 0, x.trouble());
        c.due("fault()", 0, x.fault());
        c.due("where()", -1, x.where());
        c.due("size(11)", 0, x.size(11));
        return x;
    }

    private ShadowPager reads(String text) {
        return reads(text, 3);
    }

    /** A text has a fault, told by its number and its place behind what stands ahead. */
    private void fails(String ahead, String text, int number, int place) {
        ShadowPager x = new ShadowPager();
        c.due("machine of " + ahead + text, -1, Checks.read(x, ahead + text));
        c.due("trouble() of " + text, 4, x.trouble());
        c.due("fault() of " + text, number, x.fault());
        c.due("where() of " + text, ahead.length() + place, x.where());
        c.due("size(11)", 0, x.size(11));
        c.due("no machine: root()", -1, x.root());
    }

    private void fails(String text, int number, int place) {
        fails("", text, number, place);
    }

    private static String blanks(int n) {
        return " ".repeat(n);
    }

    private void tape() {
        s.says("I", "THE TAPE has 900 bytes", () -> {
            String text = PLAIN + blanks(900 - PLAIN.length() - 8) + ";run 9 r";
            c.due("length", 900, text.length());
            c.due("runs", 1, reads(text).size(3));
            fails(text.substring(0, 899), "", 1, 0);
            fails(text.substring(0, 898) + "  ", "", 1, 0);
            fails(text.substring(0, 899), "x", 1, 0);
        });
        s.says("I", "THE TAPE has 900 bytes: a text of 900 that is one line behind the other", () -> {
            String words = PLAIN + Texts.lines("host # # rw", 0, 16) + Texts.mostWords() + Texts.lines("run # uw", 10, 20)
                    + Texts.lines("unsure 15 # 4095", 0, 4) + Texts.lines("saw # uw denied", 50, 56);
            String full = words + blanks(900 - words.length());
            ShadowPager x = reads(full);
            int[] due = {3, 16, 24, 10, 4, 6};
            for (int what = 0; what < due.length; what++) {
                c.due("size " + what, due[what], x.size(what));
            }
        });
    }

    private void blanks() {
        s.says("I", "blanks, 32, part TOKENS: words", () -> {
            fails("ma chine pool 3 root 0", 1, 0);
            fails("machine po ol 3 root 0", 1, 8);
            fails(PLAIN, ";host 1 1 r w", 1, 10);
            fails(PLAIN, ";run 1 u r", 1, 7);
            fails(PLAIN, ";saw 1 r do ne", 1, 9);
        });
        s.says("I", "blanks, 32, part TOKENS: wholes", () -> {
            fails(PLAIN, " 0", 1, 1);
            fails("machine pool 0 3 root 0", 4, 13);
            fails(PLAIN, ";host 1 2 3 rw", 1, 10);
            fails(PLAIN, ";word 1 2 3 4", 1, 12);
        });
        s.says("I", "blanks mean nothing else: any number of them, or none where no word or whole goes on", () -> {
            reads(blanks(300) + "machine" + blanks(300) + "pool" + blanks(200) + "3 root 0" + blanks(70));
            ShadowPager x = reads("machine pool3root15;host0 31rw;word15 7 1;run63uw;unsure15 7 0;saw63ur absent;saw63uw absent");
            c.due("root", 15, x.root());
            c.due("host", 31, x.backing(0));
            c.due("word", 1, x.word(15, 7));
            c.due("seen", 2, x.size(5));
            c.due("judge", 0, x.judge());
            reads(PLAIN + " ; run 1 r   ;   run 2 r;run 3 r ;run 4 r");
        });
        s.says("I", "blanks, 32: no other byte is one", () -> {
            for (char odd : new char[] {0, 1, 9, 10, 11, 12, 13, 31, 33, 127, 128, 160, 255}) {
                fails("machine" + odd + "pool 3 root 0", 1, 7);
                fails(odd + PLAIN, 1, 0);
                fails(PLAIN, "" + odd, 1, 0);
            }
        });
    }

    private void tokens() {
        s.says("I", "the first byte that begins no TOKEN: each of the 256", () -> {
            for (char b = 0; b < LATIN; b++) {
                boolean small = b >= 'a' && b <= 'z';
                boolean digit = b >= '0' && b <= '9';
                if (b == ' ' || digit) {
                    reads(PLAIN + b);
                } else if (b == ';') {
                    fails(PLAIN, ";", 1, 1);
                } else {
                    fails(PLAIN, "" + b, 1, 0);
                    fails(PLAIN, " " + b, 1, 1);
                }
                if (!small && b != ' ') {
                    fails(b + PLAIN, 1, 0);
                }
            }
        });
        s.says("I", "small letters: a great one begins no TOKEN", () -> {
            fails("MACHINE pool 3 root 0", 1, 0);
            fails("mAchine pool 3 root 0", 1, 0);
            fails(PLAIN, ";host 1 1 rW", 1, 10);
            fails(PLAIN, ";run 1 R", 1, 7);
        });
        s.says("I", "WORDS of 1 to 8 small letters that stand together: one, eight, nine, 900", () -> {
            reads(PLAIN + ";run 1 r;run 2 w;saw 3 r absent");
            fails("machines pool 3 root 0", 1, 0);
            fails("machinepo 3 root 0", 1, 0);
            fails("m".repeat(900), 1, 0);
            fails(PLAIN, ";saw 1 r deniedxx", 1, 9);
            fails(PLAIN, ";saw 1 r deniedxxx", 1, 9);
            fails(PLAIN, ";runrunrun 1 r", 1, 1);
            fails(PLAIN, ";hosthosthost 1 1 rw", 1, 1);
        });
        s.says("I", "WORDS: the beginning of one isn't one, nor is a longer one", () -> {
            fails("machin pool 3 root 0", 1, 0);
            fails("machine poo 3 root 0", 1, 8);
            fails("machine pools 3 root 0", 1, 8);
            fails("machine pool 3 roo 0", 1, 15);
            fails("machine pool 3 roots 0", 1, 15);
            for (String line : new String[] {"hos", "hosts", "wor", "words", "ru", "runs", "unsur", "unsures", "sa", "saws"}) {
                fails(PLAIN, ";" + line + " 1 1 1", 1, 1);
            }
            for (String right : new String[] {"r", "w", "o", "rwo", "roo", "wr", "or"}) {
                fails(PLAIN, ";host 1 1 " + right, 1, 10);
            }
            for (String mode : new String[] {"u", "rw", "wu", "ru", "urw", "uww", "rr", "ro"}) {
                fails(PLAIN, ";run 1 " + mode, 1, 7);
                fails(PLAIN, ";saw 1 " + mode + " gone", 1, 7);
            }
            for (String how : new String[] {"don", "dones", "absen", "absents", "denie", "denieds", "gon", "goner", "r"}) {
                fails(PLAIN, ";saw 1 r " + how, 1, 9);
            }
        });
        s.says("I", "small letters: from a to z", () -> {
            for (char small = 'a'; small <= 'z'; small++) {
                fails(PLAIN, ";host" + small + " 1 1 rw", 1, 1);
                fails(PLAIN, ";" + small + "host 1 1 rw", 1, 1);
                fails(PLAIN, ";host 1 1 rw" + small, 1, 10);
            }
        });
        s.says("I", "WHOLES of 1 to 4 digits that stand together: one, four, five, 900", () -> {
            ShadowPager x = reads("machine pool 0008 root 0015;host 0001 0031 rw;word 0015 0007 4095;run 0063 r;unsure 0015 0007 0000", 8);
            c.due("root", 15, x.root());
            c.due("word", 4095, x.word(15, 7));
            reads("machine pool 03 root 00;host 01 002 rw;word 005 06 007;run 01 r;unsure 001 02 03;saw 010 r absent");
            fails("machine pool 00003 root 0", 1, 13);
            fails("machine pool 3 root 00000", 1, 20);
            fails(PLAIN, ";host 00001 1 rw", 1, 6);
            fails(PLAIN, ";host 1 00001 rw", 1, 8);
            fails(PLAIN, ";word 00001 1 1", 1, 6);
            fails(PLAIN, ";word 1 00001 1", 1, 8);
            fails(PLAIN, ";word 1 1 00001", 1, 10);
            fails(PLAIN, ";run 00001 r", 1, 5);
            fails(PLAIN, ";unsure 1 1 00001", 1, 12);
            fails(PLAIN, ";saw 00001 r gone", 1, 5);
            fails(PLAIN, ";run 99999 r", 1, 5);
            fails(PLAIN, ";word 1 1 4294967296", 1, 10);
            fails("9".repeat(900), 1, 0);
        });
        s.says("I", "single ones of ;", () -> {
            fails(";", 1, 0);
            fails(";" + PLAIN, 1, 0);
            fails(PLAIN, ";;", 1, 1);
            fails(PLAIN, ";;run 1 r", 1, 1);
            fails(PLAIN, "; ;run 1 r", 1, 2);
            fails(PLAIN, ";run 1 r;;", 1, 9);
        });
    }

    private void linesAndTheirEnds() {
        s.says("I", "LINE {; LINE}: one, or more, never an empty one", () -> {
            reads(PLAIN);
            reads(PLAIN + ";run 1 r");
            fails(PLAIN, ";", 1, 1);
            fails(PLAIN, "  ;  ", 1, 5);
            fails(PLAIN, ";run 1 r;", 1, 9);
        });
        s.says("I", "LINE {; LINE}: no line without a ; ahead of it", () -> {
            fails(PLAIN, " run 1 r", 1, 1);
            fails(PLAIN, "run 1 r", 1, 0);
            fails(PLAIN, ";run 1 r run 2 r", 1, 9);
            fails(PLAIN, ";host 1 1 rw word 1 1 1", 1, 13);
            fails(PLAIN, ";word 1 1 1 saw 1 r gone", 1, 12);
            fails(PLAIN, ";unsure 1 1 1 x", 1, 14);
            fails(PLAIN, ";saw 1 r gone 5", 1, 14);
        });
        s.says("I", "TOKEN with which no MACHINE goes on (the end: its place): the end behind each token", () -> {
            String[] lines = {"machine pool 3 root 0", PLAIN + ";host 1 1 rw", PLAIN + ";word 1 1 1", PLAIN + ";run 1 r",
                PLAIN + ";unsure 1 1 1", PLAIN + ";saw 1 r gone"};
            for (int n = 0; n < lines.length; n++) {
                int from = n == 0 ? 0 : PLAIN.length() + 1;
                for (int at = from; at < lines[n].length(); at++) {
                    // up to ahead of each blank: a whole token is the last, and the line isn't at its end
                    if (lines[n].charAt(at) == ' ') {
                        fails(lines[n].substring(0, at), 1, at);
                        fails(lines[n].substring(0, at) + "   ", 1, at + 3);
                    }
                }
                reads(lines[n]);
            }
        });
        s.says("I", "TOKEN with which no MACHINE goes on: another sort of token at each place", () -> {
            String[] lines = {"machine pool 3 root 0", "host 1 1 rw", "word 1 1 1", "run 1 r", "unsure 1 1 1", "saw 1 r gone"};
            for (int n = 0; n < lines.length; n++) {
                String ahead = n == 0 ? "" : PLAIN + ";";
                String[] tokens = lines[n].split(" ");
                int at = 0;
                for (int k = 0; k < tokens.length; k++) {
                    boolean whole = Character.isDigit(tokens[k].charAt(0));
                    for (String odd : new String[] {whole ? "x" : "1", ";", "host", "%"}) {
                        fails(ahead, lines[n].substring(0, at) + (odd.equals(tokens[k]) || k == 0 && odd.equals("host") ? "ro" : odd), 1, at);
                    }
                    at += tokens[k].length() + 1;
                }
            }
        });
    }

    private void machineLine() {
        s.says("I", "machine pool WHOLE (3 .. 8)", () -> {
            for (int pool = 3; pool <= 8; pool++) {
                c.due("size(0)", pool, reads("machine pool " + pool + " root 0", pool).size(0));
            }
            for (int pool : new int[] {0, 1, 2, 9, 10, 9999}) {
                fails("machine pool " + pool + " root 0", 4, 13);
            }
        });
        s.says("I", "root WHOLE (a FRAME): FRAMES are 0 .. 15", () -> {
            for (int f = 0; f <= 15; f++) {
                c.due("root()", f, reads("machine pool 3 root " + f).root());
            }
            fails("machine pool 3 root 16", 4, 20);
            fails("machine pool 3 root 9999", 4, 20);
        });
        s.says("I", "machine, ahead of all others", () -> {
            fails("run 1 r;" + PLAIN, 6, 0);
            fails(PLAIN, ";" + PLAIN, 3, 1);
        });
    }

    private void hostLine() {
        s.says("I", "host (a FRAME): 0, 15, 16", () -> {
            ShadowPager x = reads(PLAIN + ";host 0 1 rw;host 15 2 rw");
            c.due("backing 0", 1, x.backing(0));
            c.due("backing 15", 2, x.backing(15));
            fails(PLAIN, ";host 16 1 rw", 4, 6);
            fails(PLAIN, ";host 9999 1 rw", 4, 6);
        });
        s.says("I", "host (a host frame, 0 .. 31): 0, 31, 32", () -> {
            ShadowPager x = reads(PLAIN + ";host 1 0 rw;host 2 31 rw");
            c.due("backing 1", 0, x.backing(1));
            c.due("backing 2", 31, x.backing(2));
            fails(PLAIN, ";host 1 32 rw", 4, 8);
            fails(PLAIN, ";host 1 9999 rw", 4, 8);
        });
        s.says("I", "host (each once)", () -> {
            fails(PLAIN, ";host 0 1 rw;host 0 2 rw", 3, 18);
            fails(PLAIN, ";host 15 1 rw;host 3 3 rw;host 15 2 rw", 3, 31);
            fails(PLAIN, ";host 7 1 ro;host 007 1 ro", 3, 18);
        });
        s.says("I", "host (unlike)", () -> {
            fails(PLAIN, ";host 1 0 rw;host 2 0 rw", 3, 20);
            fails(PLAIN, ";host 1 31 rw;host 3 3 rw;host 2 31 ro", 3, 33);
            reads(PLAIN + ";host 1 2 rw;host 2 1 rw");
        });
        s.says("I", "host (RIGHT: ro, or rw)", () -> {
            ShadowPager x = reads(PLAIN + ";host 1 1 ro;host 2 2 rw");
            c.due("writes 1", 0, x.writes(1));
            c.due("writes 2", 1, x.writes(2));
        });
        s.says("I", "host (up to 16)", () -> {
            String all = PLAIN + Texts.lines("host # # rw", 0, 16);
            c.due("backed", 16, reads(all).size(1));
            c.due("no host", 0, reads(PLAIN).size(1));
            fails(all, ";host 3 20 rw", 5, 1);
            fails(all, ";host", 5, 1);
        });
    }

    private void wordLine() {
        s.says("I", "word (a FRAME; its place, 0 .. 7): at the bounds", () -> {
            ShadowPager x = reads(PLAIN + ";word 0 0 1;word 0 7 2;word 15 0 3;word 15 7 4");
            int[] due = {x.word(0, 0), x.word(0, 7), x.word(15, 0), x.word(15, 7)};
            for (int i = 0; i < due.length; i++) {
                c.due("word", i + 1, due[i]);
            }
            fails(PLAIN, ";word 16 0 1", 4, 6);
            fails(PLAIN, ";word 9999 0 1", 4, 6);
            fails(PLAIN, ";word 0 8 1", 4, 8);
            fails(PLAIN, ";word 15 8 1", 4, 9);
            fails(PLAIN, ";word 0 9999 1", 4, 8);
        });
        s.says("I", "word (0 .. 4,095)", () -> {
            c.due("word", 4095, reads(PLAIN + ";word 1 1 4095").word(1, 1));
            c.due("word", 0, reads(PLAIN + ";word 1 1 0").word(1, 1));
            fails(PLAIN, ";word 1 1 4096", 4, 10);
            fails(PLAIN, ";word 1 1 9999", 4, 10);
        });
        s.says("I", "word (each two once)", () -> {
            fails(PLAIN, ";word 0 0 0;word 0 0 1", 3, 19);
            fails(PLAIN, ";word 15 7 5;word 1 7 5;word 15 6 5;word 15 7 5", 3, 44);
            reads(PLAIN + ";word 1 2 5;word 2 1 5;word 1 1 5;word 2 2 5");
        });
        s.says("I", "word (up to 24)", () -> {
            String all = PLAIN + Texts.mostWords();
            ShadowPager x = reads(all);
            c.due("size(2)", 24, x.size(2));
            c.due("the last of them", 9, x.word(2, 7));
            c.due("no word", 0, reads(PLAIN).size(2));
            fails(all, ";word 3 0 9", 5, 1);
            fails(all, ";word 0 0 9", 5, 1);
        });
        s.says("I", "WORDS no line tells are 0", () -> {
            ShadowPager x = reads(PLAIN + ";word 3 3 4095;unsure 4 4 4095");
            for (int f = 0; f < 16; f++) {
                for (int i = 0; i < 8; i++) {
                    c.due("word", f == 3 && i == 3 ? 4095 : 0, x.word(f, i));
                }
            }
        });
    }

    private void runLine() {
        s.says("I", "run (a PAGE): PAGES 0 .. 63", () -> {
            reads(PLAIN + ";run 0 r;run 63 uw");
            fails(PLAIN, ";run 64 r", 4, 5);
            fails(PLAIN, ";run 9999 r", 4, 5);
        });
        s.says("I", "run (MODE: r, w, ur, or uw)", () -> {
            // page 0 for no user, to read alone; page 1 for no user; page 2 as user, to read alone; page 3 for all
            String tables = PLAIN + ";host 5 5 rw;word 0 0 263;word 1 0 1281;word 1 1 1283;word 1 2 1285;word 1 3 1287;run ";
            String[] modes = {"r", "w", "ur", "uw"};
            int[][] refused = {{0, 1, 1, 1}, {0, 0, 1, 1}, {0, 1, 0, 1}, {0, 0, 0, 0}};
            for (int v = 0; v < 4; v++) {
                for (int m = 0; m < 4; m++) {
                    c.due("runRefused, page " + v + " " + modes[m], refused[v][m], reads(tables + v + " " + modes[m]).runRefused(3));
                }
            }
        });
        s.says("I", "run (up to 10), the same again, too", () -> {
            String all = PLAIN + Texts.lines("run 5 r", 0, 10);
            c.due("size(3)", 10, reads(all).size(3));
            c.due("all run", 10, reads(all).runFaults(3));
            fails(all, ";run 6 r", 5, 1);
            fails(all, ";run", 5, 1);
        });
    }

    private void unsureLine() {
        s.says("I", "unsure (a FRAME, place; 0 .. 4,095): at the bounds", () -> {
            reads(PLAIN + ";unsure 0 0 0;unsure 0 7 4095;unsure 15 0 4095;unsure 15 7 0");
            fails(PLAIN, ";unsure 16 0 1", 4, 8);
            fails(PLAIN, ";unsure 0 8 1", 4, 10);
            fails(PLAIN, ";unsure 0 7 4096", 4, 12);
            fails(PLAIN, ";unsure 9999 0 1", 4, 8);
            fails(PLAIN, ";unsure 0 9999 1", 4, 10);
        });
        s.says("I", "unsure (each two once)", () -> {
            fails(PLAIN, ";unsure 0 0 1;unsure 0 0 2", 3, 23);
            fails(PLAIN, ";unsure 15 7 1;unsure 15 6 1;unsure 14 7 1;unsure 15 7 1", 3, 53);
            reads(PLAIN + ";unsure 1 2 1;unsure 2 1 1;unsure 1 1 1;unsure 2 2 1");
        });
        s.says("I", "unsure (up to 4)", () -> {
            String all = PLAIN + Texts.lines("unsure 5 # 1", 0, 4);
            c.due("size(4)", 4, reads(all).size(4));
            fails(all, ";unsure 5 4 1", 5, 1);
            fails(all, ";unsure", 5, 1);
        });
        s.says("I", "unsure: a word told may be unsure, too, ahead or behind", () -> {
            ShadowPager x = reads(PLAIN + ";word 1 1 5;unsure 1 1 5;unsure 2 2 9;word 2 2 8");
            c.due("as told", 5, x.word(1, 1));
            c.due("as told", 8, x.word(2, 2));
        });
    }

    private void sawLine() {
        s.says("I", "saw (a PAGE): PAGES 0 .. 63", () -> {
            reads(PLAIN + ";saw 0 r absent;saw 63 r absent");
            fails(PLAIN, ";saw 64 r absent", 4, 5);
            fails(PLAIN, ";saw 9999 r absent", 4, 5);
        });
        s.says("I", "saw (HOW: done, absent, denied, or gone)", () -> {
            String tables = PLAIN + ";host 5 5 ro;word 0 0 263;word 1 0 1287;word 1 2 1543;saw ";
            String[] hows = {"done", "denied", "absent", "gone"};
            String[] ways = {"0 r ", "0 w ", "1 r ", "2 r "};
            for (int way = 0; way < 4; way++) {
                for (int how = 0; how < 4; how++) {
                    c.due("judge of " + ways[way] + hows[how], way == how ? -2 : 0, reads(tables + ways[way] + hows[how]).judge());
                }
            }
        });
        s.says("I", "saw (each two once)", () -> {
            fails(PLAIN, ";saw 0 r gone;saw 0 r done", 3, 20);
            fails(PLAIN, ";saw 63 uw gone;saw 62 uw gone;saw 63 ur gone;saw 63 uw", 3, 53);
            reads(PLAIN + ";saw 5 r gone;saw 5 w gone;saw 5 ur gone;saw 5 uw gone;saw 4 r gone;saw 6 r gone");
        });
        s.says("I", "saw (up to 6)", () -> {
            String all = PLAIN + Texts.lines("saw # r absent", 0, 6);
            c.due("size(5)", 6, reads(all).size(5));
            fails(all, ";saw 7 r absent", 5, 1);
            fails(all, ";saw", 5, 1);
        });
    }

    private void faultsOfForm() {
        s.says("I", "1 FORM: the first byte that begins no TOKEN: it, not a later one", () -> {
            fails("machine ?? pool ! 3", 1, 8);
            fails(PLAIN, ";run 1 *", 1, 7);
            fails(PLAIN, ";run 1-r", 1, 6);
            fails(PLAIN, ";word 1 1 -1", 1, 10);
            fails(PLAIN, ";word 1 1 1.0", 1, 11);
        });
        s.says("I", "the end: its place, of a text that is empty, or blank", () -> {
            fails("", 1, 0);
            fails(" ", 1, 1);
            fails(blanks(900), 1, 900);
        });
        s.says("I", "the end: its place, 900 of a full tape", () -> {
            fails((PLAIN + blanks(900)).substring(0, 899) + ";", 1, 900);
            fails((PLAIN + blanks(900)).substring(0, 895) + ";run ", 1, 900);
        });
    }

    private void faultsOfThree() {
        s.says("I", "3 a FRAME backed already; at it", () -> fails(PLAIN, ";host 4 1 rw;host 4 5 rw", 3, 18));
        s.says("I", "3 a host frame given already; at it", () -> fails(PLAIN, ";host 4 1 rw;host 5 1 rw", 3, 20));
        s.says("I", "3 a place of a FRAME told already (word); at the WHOLE of the place",
            () -> fails(PLAIN, ";word 4 1 9;word 4 1 9", 3, 19));
        s.says("I", "3 unsure already (unsure); at the WHOLE of the place",
            () -> fails(PLAIN, ";unsure 4 1 9;unsure 4 1 9", 3, 23));
        s.says("I", "3 a PAGE seen already with that MODE; at that MODE",
            () -> fails(PLAIN, ";saw 4 uw gone;saw 4 uw gone", 3, 21));
        s.says("I", "3 a second machine: at that WORD", () -> {
            fails(PLAIN, ";machine", 3, 1);
            fails(PLAIN, ";run 1 r;   machine pool 9", 3, 12);
        });
    }

    private void faultsOfBoundsManyAndLacks() {
        s.says("I", "4 a WHOLE out of bounds; at it, however many digits it has", () -> {
            fails(PLAIN, ";run 64 r", 4, 5);
            fails(PLAIN, ";run 0064 r", 4, 5);
            fails(PLAIN, ";run   0100   r", 4, 7);
        });
        s.says("I", "4 a WHOLE where none is due isn't out of bounds", () -> {
            fails("9999 pool 3 root 0", 1, 0);
            fails("machine 9999", 1, 8);
            fails(PLAIN, " 9999", 1, 1);
        });
        s.says("I", "5 MANY: a LINE more of its sort, at its first WORD: of its sort alone", () -> {
            String all = PLAIN + Texts.lines("run 5 r", 0, 10) + Texts.lines("unsure 5 # 1", 0, 4) + Texts.lines("saw # r absent", 0, 6);
            reads(all + ";host 1 1 rw;word 1 1 1");
            fails(all, ";host 1 1 rw;  unsure 1 1 1", 5, 15);
            fails(all, ";word 1 1 1;saw 1 1 1", 5, 12);
        });
        s.says("I", "6 LACKS: any LINE ahead of the machine; at its WORD", () -> {
            for (String line : new String[] {"host 1 1 rw", "word 1 1 1", "run 1 r", "unsure 1 1 1", "saw 1 r gone"}) {
                fails(line, 6, 0);
                fails("   " + line + ";" + PLAIN, 6, 3);
                fails(line.substring(0, line.indexOf(' ')), 6, 0);
            }
        });
    }

    private void whichFaultFirst() {
        s.says("I", "of one place the least number: 1 ahead of 6 at the end, 1 ahead of 3 at a WORD", () -> {
            fails("", 1, 0);
            fails("machine machine", 1, 8);
            fails(PLAIN, " machine", 1, 1);
        });
        s.says("I", "the first that is met from the left, whatever its number", () -> {
            fails("machine pool 9 root 16;?", 4, 13);
            fails("host ?;machine pool 9 root 0", 6, 0);
            fails(PLAIN, ";host 16 32 x", 4, 6);
            fails(PLAIN, ";host 1 32 x", 4, 8);
            fails(PLAIN, ";host 1 1 rw;host 1 32 x", 3, 18);
            fails(PLAIN, ";word 16 8 4096", 4, 6);
            fails(PLAIN, ";word 1 8 4096", 4, 8);
            fails(PLAIN, ";word 1 1 1;word 1 1 4096", 3, 19);
            fails(PLAIN, ";saw 64 x y", 4, 5);
            fails(PLAIN, ";saw 1 r gone;saw 1 r x", 3, 20);
            fails(PLAIN + Texts.lines("run 5 r", 0, 10), ";run 64 x;?", 5, 1);
            fails(PLAIN, ";machine pool 99;?", 3, 1);
        });
    }

    private void feed() {
        s.says("2", "Twenty bytes come behind THE TAPE, of each number the highest first", () -> {
            ShadowPager x = new ShadowPager();
            // "machine pool 4 root " and "1" with bytes of 255, 128, 0, 127 behind it
            c.due("feed", 20, x.feed(0x6d616368, 0x696e6520, 0x706f6f6c, 0x20342072, 0x6f6f7420));
            c.due("feed", 40, x.feed(0x3120ff80, 0x007f0000, Integer.MIN_VALUE, Integer.MAX_VALUE, -1));
            c.due("machine", -1, x.machine(23));
            c.due("where: the byte of 255", 22, x.where());
            x.feed(0x6d616368, 0x696e6520, 0x706f6f6c, 0x20342072, 0x6f6f7420);
            x.feed(0x3120ff80, 0, 0, 0, 0);
            c.due("machine", 4, x.machine(22));
            c.due("root", 1, x.root());
        });
        s.says("2", "how many it has", () -> {
            ShadowPager x = new ShadowPager();
            for (int i = 1; i <= 45; i++) {
                c.due("feed", 20 * i, x.feed(0, -1, Integer.MIN_VALUE, Integer.MAX_VALUE, i));
                c.due("size(11)", 20 * i, x.size(11));
            }
        });
        s.says("2", "NONE, and none comes, if there would be more than 900", () -> {
            ShadowPager x = new ShadowPager();
            String text = PLAIN + blanks(900 - PLAIN.length());
            Checks.feed(x, text);
            for (int i = 0; i < 3; i++) {
                c.due("feed", -1, x.feed(-1, -1, -1, -1, -1));
                c.due("size(11)", 900, x.size(11));
            }
            c.due("machine", 3, x.machine(900));
            c.due("room again", 20, x.feed(0, 0, 0, 0, 0));
        });
        s.says("2", "feed tells no number: it may not be refused", () -> {
            s.leavesTrouble(ShadowPager::new, x -> x.feed(1, 2, 3, 4, 5));
            s.leavesTrouble(() -> {
                ShadowPager x = new ShadowPager();
                Checks.feed(x, blanks(900));
                return x;
            }, x -> x.feed(1, 2, 3, 4, 5));
        });
    }

    private static ShadowPager busy() {
        ShadowPager x = Checks.of(Texts.BASE);
        x.access(0, true, false);
        x.access(9, false, false);
        x.store(2, 0, 519, false);
        x.image();
        return x;
    }

    private static ShadowPager fed(String text) {
        ShadowPager x = busy();
        Checks.feed(x, text);
        return x;
    }

    private void machine() {
        s.says("3", "The first n bytes of THE TAPE: none, all, and those behind mean nothing", () -> {
            ShadowPager x = new ShadowPager();
            Checks.feed(x, "machine pool 8 root 12?");
            c.due("machine of all but the last", 8, x.machine(22));
            c.due("root", 12, x.root());
            Checks.feed(x, "machine pool 8 root 12?");
            c.due("machine", 8, x.machine(21));
            c.due("root", 1, x.root());
            Checks.feed(x, PLAIN);
            c.due("machine of none", -1, x.machine(0));
            c.due("fault", 1, x.fault());
            c.due("where", 0, x.where());
            c.due("the machine stays", 8, x.size(0));
            Checks.feed(x, "machine pool 7 root 5                   ");
            c.due("machine of all", 7, x.machine(40));
        });
        s.says("3", "THE TAPE (it is empty then)", () -> {
            ShadowPager x = fed(PLAIN + "       ");
            c.due("size(11)", 40, x.size(11));
            x.machine(21);
            c.due("size(11)", 0, x.size(11));
            c.due("feed", 20, x.feed(0, 0, 0, 0, 0));
            c.due("machine", -1, x.machine(20));
            c.due("by 4, too", 0, x.size(11));
            c.due("feed", 20, x.feed(0, 0, 0, 0, 0));
        });
        s.says("3", "the MACHINE from now on (no SHADOW TABLE)", () -> {
            ShadowPager x = fed(Texts.BASE);
            x.machine(Texts.BASE.length());
            for (int n = 0; n < 3; n++) {
                c.due("kind", -2, x.shadow(n, 0));
                c.due("entries", 0, x.shadow(n, 3));
                c.due("led", n, x.led(n));
            }
            c.due("outOfStep", 0, x.outOfStep());
            c.due("hits", -2, x.hits(0, false, false));
        });
        s.says("3", "(no MARK)", () -> {
            ShadowPager x = fed(Texts.BASE);
            c.due("marks ahead", 6, x.marks());
            x.machine(Texts.BASE.length());
            c.due("marks", 0, x.marks());
        });
        s.says("3", "(nothing to undo)", () -> {
            ShadowPager x = fed(Texts.BASE);
            c.due("size(9) ahead", 3, x.size(9));
            x.machine(Texts.BASE.length());
            c.due("size(9)", 0, x.size(9));
            c.due("undo", false, x.undo());
            c.due("trouble", 6, x.trouble());
        });
        s.says("3", "(no IMAGES)", () -> {
            ShadowPager x = fed(Texts.BASE);
            x.image();
            x.image();
            x.machine(Texts.BASE.length());
            c.due("size(10)", 0, x.size(10));
            c.due("back", false, x.back(0));
            c.due("trouble", 1, x.trouble());
            c.due("image", 0, x.image());
        });
        s.says("3", "the MACHINE from now on: nothing of the one ahead is left", () -> {
            ShadowPager x = fed("machine pool 8 root 15");
            x.machine(22);
            ShadowPager y = reads("machine pool 8 root 15", 8);
            c.due("as a new one", true, Sentences.all(x).equals(Sentences.all(y)));
            Checks.feed(x, Texts.BASE);
            x.machine(Texts.BASE.length());
            c.due("as a new one", true, Sentences.all(x).equals(Sentences.all(Checks.of(Texts.BASE))));
        });
        s.says("3", "the MACHINE from now on: nothing is left of any text ahead, be it a faulty one", () -> {
            String full = "machine pool 8 root 15" + Texts.lines("host # # rw", 0, 16) + Texts.mostWords() + Texts.lines("run 9 r", 0, 10)
                    + Texts.lines("unsure 1 # 7", 0, 4) + Texts.lines("saw # r gone", 0, 6);
            String[] ahead = {full + blanks(900 - full.length()), full + ";?"};
            for (String text : ahead) {
                for (String last : new String[] {PLAIN, full}) {
                    ShadowPager x = new ShadowPager();
                    Checks.read(x, text);
                    Checks.read(x, "machine pool 3 root 9");
                    Checks.read(x, text);
                    Checks.read(x, last);
                    c.due("as a new one", true, Sentences.all(x).equals(Sentences.all(Checks.of(last))));
                    Checks.read(x, last);
                    c.due("and again", true, Sentences.all(x).equals(Sentences.all(Checks.of(last))));
                }
            }
        });
        s.says("3", "its pool", () -> {
            for (int pool = 3; pool <= 8; pool++) {
                ShadowPager x = fed("machine pool " + pool + " root 0");
                s.does(x, pool, y -> y.machine(21));
                c.due("size(0)", pool, x.size(0));
            }
        });
    }

    private void machineRefused() {
        s.says("3", "NONE: 2 (THE TAPE stays)", () -> {
            for (int n : new int[] {-1, 41, 900, 901, Integer.MIN_VALUE, Integer.MAX_VALUE}) {
                s.refuses(() -> fed(PLAIN), 2, -1, x -> x.machine(n));
            }
            s.refuses(ShadowPager::new, 2, -1, x -> x.machine(1));
            s.refuses(ShadowPager::new, 2, -1, x -> x.machine(-1));
            ShadowPager x = fed(PLAIN);
            x.machine(41);
            c.due("it is there yet", 3, x.machine(21));
        });
        s.says("3", "NONE: 4 (the MACHINE stays)", () -> {
            for (String text : new String[] {"machine", "machine pool 9", PLAIN + ";host 1 1 rw;host 1 2 rw", "word 1 1 1", Texts.BASE + ";machine"}) {
                ShadowPager x = fed(text);
                ShadowPager y = busy();
                x.back(9);
                c.due("machine", -1, x.machine(text.length()));
                c.due("trouble", 4, x.trouble());
                c.due("fault ahead of the rest", true, x.fault() > 0);
                // but for the fault, all is as it was: a good text of one that is refused by 2 tells no fault
                x.feed(0, 0, 0, 0, 0);
                y.feed(0, 0, 0, 0, 0);
                y.machine(20);
                x.machine(0);
                c.due("as it was", true, Sentences.all(x).equals(Sentences.all(y)));
                c.due("undo", true, x.undo());
                c.due("back", true, x.back(0));
            }
        });
    }

    private void fault() {
        s.says("4", "The FAULT of the latest machine()", () -> {
            ShadowPager x = new ShadowPager();
            String[] texts = {"?", PLAIN + ";machine", "machine pool 9", PLAIN + Texts.lines("run 1 r", 0, 11), "run"};
            int[] due = {1, 3, 4, 5, 6};
            for (int i = 0; i < texts.length; i++) {
                Checks.read(x, texts[i]);
                c.due("fault", due[i], x.fault());
                x.root();
                c.due("fault, behind other calls", due[i], x.fault());
            }
        });
        s.says("4", "not refused by 2", () -> {
            ShadowPager x = new ShadowPager();
            Checks.read(x, "machine pool 9");
            x.machine(1);
            c.due("fault", 4, x.fault());
            Checks.read(x, PLAIN);
            x.machine(-1);
            c.due("fault", 0, x.fault());
        });
        s.says("4", "0 without one", () -> {
            c.due("fault of a new object", 0, new ShadowPager().fault());
            ShadowPager x = new ShadowPager();
            x.machine(1);
            c.due("fault", 0, x.fault());
            Checks.read(x, "machine pool 9");
            Checks.read(x, PLAIN);
            c.due("fault behind a good text", 0, x.fault());
        });
        s.says("4", "fault tells no number: it may not be refused", () -> s.leavesTrouble(EdgesOfTextTest::busy, x -> x.fault()));
    }

    private void where() {
        s.says("5", "Its place, if the latest call that may be refused was by 4", () -> {
            ShadowPager x = new ShadowPager();
            Checks.read(x, "");
            c.due("where", 0, x.where());
            Checks.read(x, "machine pool 9");
            c.due("where", 13, x.where());
            x.feed(0, 0, 0, 0, 0);
            x.fault();
            x.size(99);
            x.trouble();
            c.due("where, behind calls that may not be refused", 13, x.where());
            Checks.feed(x, blanks(880));
            x.machine(900);
            c.due("where", 0, x.where());
            Checks.read(x, blanks(900));
            c.due("where", 900, x.where());
        });
        s.says("5", "NONE else", () -> {
            c.due("where of a new object", -1, new ShadowPager().where());
            ShadowPager x = new ShadowPager();
            Checks.read(x, "machine pool 9");
            x.root();
            c.due("where, by 1", -1, x.where());
            c.due("fault is told yet", 4, x.fault());
            Checks.read(x, "machine pool 9");
            x.machine(1);
            c.due("where, by 2", -1, x.where());
            Checks.read(x, "machine pool 9");
            x.undo();
            c.due("where, by 6", -1, x.where());
            Checks.read(x, PLAIN);
            c.due("where, not refused", -1, x.where());
            Checks.read(x, "machine pool 9");
            x.unmap(0);
            c.due("where, by 5", -1, x.where());
            Checks.read(x, "machine pool 9");
            x.marks();
            c.due("where, not refused", -1, x.where());
        });
        s.says("5", "where tells no number: it may not be refused", () -> s.leavesTrouble(EdgesOfTextTest::busy, x -> x.where()));
    }
}
