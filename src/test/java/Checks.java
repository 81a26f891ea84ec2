import java.nio.charset.StandardCharsets;
import java.util.Arrays;

/** What the tests share: counting wrong answers, and feeding a text. */
final class Checks {
    private int wrong;
    private int made;
    private String part = "";

    void part(String name) {
        part = name;
    }

    int made() {
        return made;
    }

    void due(String call, long want, long got) {
        made++;
        if (want != got) {
            wrong++;
            System.out.println(part + ": " + call + " answered " + got + ", due is " + want);
        }
    }

    void due(String call, boolean want, boolean got) {
        due(call, want ? 1 : 0, got ? 1 : 0);
    }

    /** The latest call was refused by this number; where() tells no place unless by 4. */
    void refused(ShadowPager x, String call, int number, long got) {
        due(call, -1, got);
        due(call + ", trouble()", number, x.trouble());
        if (number != 4) {
            due(call + ", where()", -1, x.where());
        }
    }

    void refused(ShadowPager x, String call, int number, boolean got) {
        refused(x, call, number, got ? 1 : -1);
    }

    /** An answer, and that the call was not refused. */
    void told(ShadowPager x, String call, long want, long got) {
        due(call, want, got);
        due(call + ", trouble()", 0, x.trouble());
    }

    void told(ShadowPager x, String call, boolean want, boolean got) {
        told(x, call, want ? 1 : 0, got ? 1 : 0);
    }

    void end() {
        System.out.println(made + " answers looked at, " + wrong + " wrong");
        if (wrong != 0) {
            System.exit(1);
        }
    }

    static void feed(ShadowPager x, String text) {
        byte[] bytes = text.getBytes(StandardCharsets.ISO_8859_1);
        for (int at = 0; at < bytes.length; at += 20) {
            byte[] twenty = Arrays.copyOfRange(bytes, at, at + 20);
            x.feed(four(twenty, 0), four(twenty, 4), four(twenty, 8), four(twenty, 12), four(twenty, 16));
        }
    }

    private static int four(byte[] bytes, int at) {
        int value = 0;
        for (int i = 0; i < 4; i++) {
            value = value << 8 | bytes[at + i] & 255;
        }
        return value;
    }

    /** Feeds a text and reads just its bytes. */
    static int read(ShadowPager x, String text) {
        feed(x, text);
        return x.machine(text.length());
    }

    static ShadowPager of(String text) {
        ShadowPager x = new ShadowPager();
        int pool = read(x, text);
        if (pool < 0) {
            throw new IllegalStateException("fault " + x.fault() + " at " + x.where() + " of " + text);
        }
        return x;
    }
}
