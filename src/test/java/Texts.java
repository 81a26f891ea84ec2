/** Texts of machines that several tests read. */
final class Texts {
    static final String PLAIN = "machine pool 3 root 0";

    static final String BASE = "machine pool 3 root 0;host 2 10 rw;host 3 11 ro;host 1 12 rw;host 9 13 rw;"
            + "word 0 0 263;word 0 1 2083;word 1 0 519;word 1 1 771;word 1 2 263;word 1 3 517;"
            + "run 0 r;run 0 w;run 9 r;run 9 w;run 1 w;run 5 r;unsure 1 0 0;saw 0 w done;saw 1 w denied";

    /** Four leaves, one behind each of the first root's words, all to frame 5. */
    static final String LEAVES = "machine pool 3 root 0;host 5 5 rw;host 6 6 rw;word 0 0 263;word 0 1 519;"
            + "word 0 2 775;word 0 3 1031;word 1 0 1287;word 2 0 1287;word 3 0 1287;word 4 0 1287;"
            + "run 0 r;run 8 r;run 16 r;run 24 r;run 0 r;run 8 r";

    /** Page 0 leads to frame 1, the leaf that all pages go by. */
    static final String SELF = "machine pool 4 root 0;host 1 11 rw;host 5 5 rw;host 6 6 rw;word 0 0 263;"
            + "word 1 0 263;word 1 1 1287;word 1 2 1543;word 1 3 1287;word 1 4 1287";

    /** Page 0 leads to frame 0, the root. */
    static final String ROOTED = "machine pool 3 root 0;host 0 20 rw;host 5 5 rw;word 0 0 263;word 1 0 7;word 1 1 1287";

    /** All 64 pages lead to frame 5 by one leaf, each with every right. */
    static final String ALL = "machine pool 3 root 0;host 5 0 rw" + lines("word 0 # 263", 0, 8) + lines("word 1 # 1287", 0, 8);

    private Texts() {
    }

    /** Lines that are alike but for a number, # in the line, each behind a ;. */
    static String lines(String line, int from, int to) {
        StringBuilder s = new StringBuilder();
        for (int i = from; i < to; i++) {
            s.append(';').append(line.replace("#", "" + i));
        }
        return s.toString();
    }

    /** Three frames of words, eight each: as many as a text may tell. */
    static String mostWords() {
        return lines("word 0 # 9", 0, 8) + lines("word 1 # 9", 0, 8) + lines("word 2 # 9", 0, 8);
    }

    /** A leaf, 1 to 7, behind each of the root's first words, the first word of each to frame 15. */
    static String sevenLeaves() {
        StringBuilder s = new StringBuilder();
        for (int f = 1; f <= 7; f++) {
            s.append(";word 0 ").append(f - 1).append(' ').append(f * 256 + 7);
            s.append(";word ").append(f).append(" 0 3847");
        }
        return s.toString();
    }
}
