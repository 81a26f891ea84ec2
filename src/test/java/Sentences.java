import java.util.ArrayList;
import java.util.List;
import java.util.Set;
import java.util.TreeSet;

/**
 * Tests that are told one by one, each by the sentence of the document that it holds the class to.
 * Each looks at objects of its own, so that what is wrong in one hides nothing in another.
 */
final class Sentences {
    interface Call {
        long on(ShadowPager x);
    }

    interface Maker {
        ShadowPager make();
    }

    private static final int FAR_OUT = 1000;

    final Checks c = new Checks();
    private final Set<String> places = new TreeSet<>();
    private int tests;

    /** One test: where the sentence stands, the sentence, and what is looked at. */
    void says(String place, String sentence, Runnable test) {
        c.part(place + ", \"" + sentence + "\"");
        int before = c.made();
        try {
            test.run();
        } catch (RuntimeException e) {
            c.due("a test that ends without " + e, true, false);
        }
        c.due("a test that looks at something", true, c.made() > before);
        places.add(place);
        tests++;
    }

    boolean has(String place) {
        return places.contains(place);
    }

    void end() {
        System.out.println(tests + " sentences");
        c.end();
    }

    // ---- calls that may be refused

    /** Refused by a number: what it answers, what trouble() and where() tell, and nothing is changed. */
    void refuses(Maker maker, int number, long due, Call call) {
        ShadowPager x = maker.make();
        List<Long> before = all(x);
        otherTrouble(x, number);
        c.due("the refused call", due, call.on(x));
        c.due("trouble()", number, x.trouble());
        c.due("where()", -1, x.where());
        c.due("nothing is changed", true, before.equals(all(x)));
    }

    /** Not refused, and nothing is changed. */
    void asks(Maker maker, long due, Call call) {
        ShadowPager x = maker.make();
        List<Long> before = all(x);
        otherTrouble(x, 0);
        c.due("the call", due, call.on(x));
        c.due("trouble()", 0, x.trouble());
        c.due("where()", -1, x.where());
        c.due("nothing is changed", true, before.equals(all(x)));
    }

    /** Not refused, whatever it changes. */
    void does(Maker maker, long due, Call call) {
        does(maker.make(), due, call);
    }

    void does(ShadowPager x, long due, Call call) {
        otherTrouble(x, 0);
        c.due("the call", due, call.on(x));
        c.due("trouble()", 0, x.trouble());
        c.due("where()", -1, x.where());
    }

    /** A call that can't be refused leaves the trouble of the one ahead of it. */
    void leavesTrouble(Maker maker, Call call) {
        ShadowPager x = maker.make();
        otherTrouble(x, 1);
        call.on(x);
        c.due("trouble() of the call ahead", 2, x.trouble());
        otherTrouble(x, 2);
        call.on(x);
        c.due("trouble() of the call ahead", 1, x.trouble());
    }

    /** The latest trouble comes to be another one than that which is due, lest an old one pass for it. */
    private void otherTrouble(ShadowPager x, int number) {
        if (number == 2) {
            c.due("back of no image", false, x.back(FAR_OUT));
            c.due("its trouble()", 1, x.trouble());
        } else {
            c.due("machine of too many", -1, x.machine(FAR_OUT));
            c.due("its trouble()", 2, x.trouble());
        }
    }

    /** What an object answers, in some 130 calls: enough to see that a call changed nothing. */
    static List<Long> all(ShadowPager x) {
        List<Long> told = scene(x);
        for (int what = 0; what <= 11; what++) {
            told.add((long) x.size(what));
        }
        long[] single = {x.fault(), x.rate(false), x.rate(true), x.fits(), x.judge(), x.runFaults(3)};
        for (long answer : single) {
            told.add(answer);
        }
        return told;
    }

    /** What an undoing brings back. */
    static List<Long> scene(ShadowPager x) {
        List<Long> told = new ArrayList<>();
        long[] single = {x.root(), x.marks(), x.tables(), x.stale(), x.missing(), x.outOfStep(), x.dropsNext()};
        for (long answer : single) {
            told.add(answer);
        }
        for (int f = 0; f < 16; f++) {
            told.add((long) x.backing(f));
            told.add((long) x.writes(f));
        }
        for (int f = 0; f < 4; f++) {
            for (int i = 0; i < 8; i++) {
                told.add((long) x.word(f, i));
            }
        }
        for (int n = 0; n < 4; n++) {
            told.add((long) x.shadow(n, 0));
            told.add((long) x.shadow(n, 1));
            told.add((long) x.shadow(n, 4));
            for (int i = 0; i < 8; i++) {
                told.add((long) x.entry(n, i));
            }
        }
        return told;
    }

    static long bit(boolean so) {
        return so ? 1 : 0;
    }
}
