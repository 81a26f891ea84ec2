import java.lang.reflect.InvocationTargetException;
import java.lang.reflect.Method;
import java.lang.reflect.Modifier;
import java.util.ArrayList;
import java.util.Comparator;
import java.util.List;
import java.util.NoSuchElementException;
import java.util.Random;

/** Drawn runs of calls, each of at most 512 on an object, answer by answer against the model. */
public final class ModelTest {
    private static final int THROWN = -1000;
    private static final int MOST_CALLS = 512;

    private final Random random;
    private final List<String> told = new ArrayList<>();
    private final ShadowPager real = new ShadowPager();
    private final Model model = new Model();
    private int calls;
    private boolean wrong;

    private ModelTest(long seed) {
        random = new Random(seed);
    }

    private static final List<Method> FACE = new ArrayList<>();

    public static void main(String[] args) throws Exception {
        for (Method m : ShadowPager.class.getDeclaredMethods()) {
            if (Modifier.isPublic(m.getModifiers())) {
                FACE.add(m);
            }
        }
        // reflection tells methods in no order of its own
        FACE.sort(Comparator.comparing(Method::getName));
        int runs = args.length > 0 ? Integer.parseInt(args[0]) : 3000;
        int base = args.length > 1 ? Integer.parseInt(args[1]) : 0;
        int bad = 0;
        long all = 0;
        for (int seed = base; seed < base + runs && bad < 3; seed++) {
            ModelTest test = new ModelTest(seed);
            test.run(seed % 4);
            all += test.calls;
            if (test.wrong) {
                bad++;
                System.out.println("seed " + seed);
                test.told.forEach(System.out::println);
            }
        }
        System.out.println(all + " calls of drawn runs, " + bad + " runs wrong");
        if (bad != 0) {
            System.exit(1);
        }
    }

    private void run(int style) throws Exception {
        if (style == 0) {
            while (more() && calls < 400) {
                tell(random.nextInt(5) == 0 ? text() : spoilt(text()));
                for (int i = random.nextInt(6); i > 0 && more(); i--) {
                    step(style);
                }
            }
            return;
        }
        if (random.nextInt(8) == 0) {
            for (int i = random.nextInt(30); i > 0; i--) {
                step(style);
            }
        }
        tell(text());
        while (more()) {
            if (random.nextInt(300) == 0) {
                tell(text());
            }
            step(style);
        }
    }

    private boolean more() {
        return calls < MOST_CALLS && !wrong;
    }

    private void step(int style) throws Exception {
        String[] acts = {"load", "flush", "flush", "device", "unmap", "give", "give", "protect", "clean", "undo", "undo", "image", "back"};
        int kind = random.nextInt(10);
        if (kind < 3) {
            call("access", page(), flag(), flag());
        } else if (kind < 5) {
            call("store", page(), place(), word(), flag());
        } else if (kind == 5 && style != 3) {
            drawnCall(acts[random.nextInt(acts.length)]);
        } else {
            drawnCall(FACE.get(random.nextInt(FACE.size())).getName());
        }
    }

    private void drawnCall(String name) throws Exception {
        switch (name) {
            case "feed":
                if (random.nextInt(4) == 0) {
                    call(name, random.nextInt(), random.nextInt(), random.nextInt(), random.nextInt(), random.nextInt());
                }
                break;
            case "machine":
                if (random.nextInt(10) == 0) {
                    call(name, random.nextInt(30) - 2);
                }
                break;
            case "word": call(name, frame(), place()); break;
            case "wordsWith": call(name, frame(), random.nextInt(66)); break;
            case "look":
            case "hits":
            case "access": call(name, page(), flag(), flag()); break;
            case "shadow": call(name, random.nextInt(10) - 1, random.nextInt(8) - 1); break;
            case "entry": call(name, random.nextInt(10) - 1, place()); break;
            case "runFaults":
            case "runRefused":
            case "runDrops": call(name, random.nextInt(8) + 2); break;
            case "poolFor": call(name, random.nextInt(13) - 1); break;
            case "sweep": call(name, page(), page()); break;
            case "drawnFaults":
            case "drawnMarks": call(name, random.nextInt(65540) - 1, random.nextInt(204) - 1); break;
            case "rate": call(name, flag()); break;
            case "fitAt": call(name, random.nextInt(19) - 1); break;
            case "store": call(name, page(), place(), word(), flag()); break;
            case "device": call(name, frame(), place(), word()); break;
            case "give": call(name, frame(), random.nextInt(34) - 1, flag()); break;
            case "load": call(name, rootFrame()); break;
            case "back": call(name, random.nextInt(5) - 1); break;
            case "led": call(name, random.nextInt(10) - 1); break;
            case "size": call(name, random.nextInt(14) - 1); break;
            case "leads":
            case "rights":
            case "large":
            case "flush": call(name, page()); break;
            case "backing":
            case "writes":
            case "aliases":
            case "maps":
            case "writers":
            case "watched":
            case "unmap":
            case "protect":
            case "clean": call(name, frame()); break;
            default: call(name);
        }
    }

    private void call(String name, int... a) throws Exception {
        if (!more()) {
            return;
        }
        calls++;
        long want;
        try {
            want = model.call(name, a);
        } catch (NoSuchElementException e) {
            want = THROWN;
        }
        long got = realCall(name, a);
        told.add(name + java.util.Arrays.toString(a) + " answered " + got + ", due is " + want);
        if (got != want) {
            wrong = true;
        }
    }

    private long realCall(String name, int[] a) throws Exception {
        for (Method m : FACE) {
            if (m.getName().equals(name)) {
                Object[] values = new Object[a.length];
                for (int i = 0; i < a.length; i++) {
                    values[i] = m.getParameterTypes()[i] == boolean.class ? (Object) (a[i] == 1) : (Object) a[i];
                }
                try {
                    Object answer = m.invoke(real, values);
                    return answer instanceof Boolean ? ((Boolean) answer ? 1 : 0) : ((Number) answer).longValue();
                } catch (InvocationTargetException e) {
                    if (e.getCause() instanceof NoSuchElementException) {
                        return THROWN;
                    }
                    throw e;
                }
            }
        }
        throw new IllegalStateException(name);
    }

    private void tell(String text) throws Exception {
        told.add(text);
        for (int[] five : fives(text)) {
            call("feed", five);
        }
        call("machine", text.length());
        call("fault");
        call("where");
        call("trouble");
    }

    // ---- what is drawn: mostly near the few frames and pages that a text has tables for

    private int flag() {
        return random.nextInt(2);
    }

    private int frame() {
        return random.nextInt(12) == 0 ? random.nextInt(20) - 2 : random.nextInt(3) == 0 ? random.nextInt(16) : random.nextInt(5);
    }

    private int place() {
        return random.nextInt(20) == 0 ? random.nextInt(12) - 2 : random.nextInt(8);
    }

    private int page() {
        List<Integer> mapped = model.mapped();
        if (random.nextInt(5) == 0 || mapped.isEmpty()) {
            return random.nextInt(5) == 0 ? random.nextInt(70) - 3 : random.nextInt(64);
        }
        return mapped.get(random.nextInt(mapped.size()));
    }

    private int word() {
        return random.nextInt(30) == 0 ? random.nextInt(3) * 4096 - 1 : goodWord();
    }

    private int goodWord() {
        int f = random.nextInt(4) == 0 ? random.nextInt(16) : random.nextInt(5);
        int bits = random.nextInt(64);
        if (random.nextInt(6) != 0) {
            bits |= 7;
        }
        if (random.nextInt(4) != 0) {
            bits &= ~32;
        }
        return f * 256 + bits + (random.nextInt(8) == 0 ? 64 : 0) + (random.nextInt(8) == 0 ? 128 : 0);
    }

    /** Loads go back to frames that hold tables most times, or soon nothing would lead anywhere. */
    private int rootFrame() {
        return random.nextInt(8) == 0 ? frame() : random.nextInt(3);
    }

    private String text() {
        StringBuilder s = new StringBuilder();
        int root = random.nextInt(3);
        s.append("machine pool ").append(random.nextInt(3) == 0 ? 3 + random.nextInt(6) : 3).append(" root ").append(root);
        appendHosts(s);
        List<int[]> words = drawnWords(root);
        List<int[]> unsure = drawnUnsure(words);
        // what was seen is looked at in a guest in which some of the unsure words are the other ones
        StringBuilder truth = new StringBuilder(s);
        for (int[] w : words) {
            appendWord(s, ";word ", w);
            int[] other = at(unsure, w[0], w[1]);
            appendWord(truth, ";word ", other != null && random.nextInt(2) == 0 ? other : w);
        }
        Model guest = new Model();
        feed(guest, truth.toString());
        List<Integer> pages = guest.mapped();
        for (int r = random.nextInt(2) == 0 ? random.nextInt(11) : 10; r > 0; r--) {
            s.append(";run ").append(somePage(pages)).append(' ').append(MODES[random.nextInt(4)]);
        }
        for (int[] u : unsure) {
            appendWord(s, ";unsure ", u);
        }
        appendSights(s, guest, pages);
        return s.length() > 900 ? s.substring(0, s.lastIndexOf(";", 900)) : s.toString();
    }

    private static final String[] MODES = {"r", "w", "ur", "uw"};

    private void appendHosts(StringBuilder s) {
        List<Integer> frames = new ArrayList<>();
        List<Integer> hosts = new ArrayList<>();
        for (int h = random.nextInt(4) == 0 ? random.nextInt(17) : 16; h > 0; h--) {
            int f = random.nextInt(2) == 0 ? random.nextInt(6) : random.nextInt(16);
            int host = random.nextInt(32);
            if (!frames.contains(f) && !hosts.contains(host)) {
                frames.add(f);
                hosts.add(host);
                s.append(";host ").append(f).append(' ').append(host).append(random.nextInt(5) == 0 ? " ro" : " rw");
            }
        }
    }

    private List<int[]> drawnWords(int root) {
        List<int[]> words = new ArrayList<>();
        for (int w = random.nextInt(4) == 0 ? random.nextInt(25) : 24; w > 0; w--) {
            int f = random.nextInt(3) == 0 ? root : random.nextInt(5);
            int i = random.nextInt(f == root ? 4 : 8);
            if (at(words, f, i) == null) {
                words.add(new int[] {f, i, goodWord()});
            }
        }
        return words;
    }

    private List<int[]> drawnUnsure(List<int[]> words) {
        List<int[]> unsure = new ArrayList<>();
        for (int u = random.nextInt(5); u > 0; u--) {
            boolean near = !words.isEmpty() && random.nextInt(6) != 0;
            int[] w = near ? words.get(random.nextInt(words.size())) : new int[] {random.nextInt(5), random.nextInt(8)};
            if (at(unsure, w[0], w[1]) == null) {
                unsure.add(new int[] {w[0], w[1], goodWord()});
            }
        }
        return unsure;
    }

    private void appendSights(StringBuilder s, Model guest, List<Integer> pages) {
        String[] hows = {"done", "", "absent", "denied", "gone"};
        List<Integer> ways = new ArrayList<>();
        for (int n = random.nextInt(7); n > 0; n--) {
            int v = somePage(pages);
            int mode = random.nextInt(4);
            if (!ways.contains(v * 4 + mode)) {
                ways.add(v * 4 + mode);
                long look = guest.call("look", new int[] {v, mode % 2, mode / 2});
                String how = random.nextInt(20) == 0 ? "gone" : hows[look >= 0 ? 0 : (int) -look];
                s.append(";saw ").append(v).append(' ').append(MODES[mode]).append(' ').append(how);
            }
        }
    }

    private int somePage(List<Integer> pages) {
        return pages.isEmpty() || random.nextInt(6) == 0 ? random.nextInt(64) : pages.get(random.nextInt(pages.size()));
    }

    private static int[] at(List<int[]> rows, int f, int i) {
        for (int[] row : rows) {
            if (row[0] == f && row[1] == i) {
                return row;
            }
        }
        return null;
    }

    private static void appendWord(StringBuilder s, String name, int[] w) {
        s.append(name).append(w[0]).append(' ').append(w[1]).append(' ').append(w[2]);
    }

    private static void feed(Model guest, String text) {
        for (int[] five : fives(text)) {
            guest.call("feed", five);
        }
        guest.call("machine", new int[] {text.length()});
    }

    private static List<int[]> fives(String text) {
        List<int[]> rows = new ArrayList<>();
        String padded = text + " ".repeat((20 - text.length() % 20) % 20);
        for (int at = 0; at < padded.length(); at += 20) {
            int[] five = new int[5];
            for (int k = 0; k < 20; k++) {
                five[k / 4] = five[k / 4] << 8 | padded.charAt(at + k);
            }
            rows.add(five);
        }
        return rows;
    }

    /** A text with something wrong in it, most times. */
    private String spoilt(String text) {
        String[] odd = {";", "host", "run 1 r", "word 1 1 1", ";host 1 1 ro", ";host 16 1 ro", ";run 5 uw", ";saw 5 r done", "x", "\u0000",
            "\u00ff", "12345", "letterlong", "999", " ", ";machine pool 3 root 1", ";unsure 1 1 4096", "A", ";word 9 8 1",
            ";unsure 0 0 1", ";saw 5 r gone", ";run 1 r", ";run 1 r;run 2 w;run 3 ur;run 4 r;run 5 r;run 6 r", ";unsure 7 1 1;unsure 7 2 2;unsure 7 3 3",
            ";saw 40 r done;saw 41 r done;saw 42 r done;saw 43 r gone", ";word 9 1 1;word 9 2 2;word 9 3 3;word 9 4 4", "machine", ";word 0 7 0000", "0", "\t"};
        StringBuilder s = new StringBuilder(text);
        for (int n = 1 + random.nextInt(3); n > 0; n--) {
            int at = random.nextInt(s.length() + 1);
            int kind = random.nextInt(5);
            if (kind == 4) {
                s.insert(0, odd[random.nextInt(odd.length)] + (flag() == 0 ? ";" : ""));
            } else if (kind == 0) {
                s.setLength(at);
            } else if (kind == 1 && at < s.length()) {
                s.deleteCharAt(at);
            } else if (kind == 2) {
                s.insert(at, odd[random.nextInt(odd.length)]);
            } else {
                s.append(odd[random.nextInt(odd.length)]);
            }
        }
        return s.length() > 900 ? s.substring(0, 900) : s.toString();
    }
}
