import java.util.ArrayDeque;
import java.util.ArrayList;
import java.util.Deque;
import java.util.HashMap;
import java.util.HashSet;
import java.util.List;
import java.util.Map;
import java.util.NoSuchElementException;
import java.util.Set;
import java.util.regex.Matcher;
import java.util.regex.Pattern;

/**
 * The document once more, with objects, lists and copies where the class has rows and masks: what
 * ModelTest holds the class against.
 */
final class Model {
    static final class Refusal extends RuntimeException {
        final int number;

        Refusal(int number) {
            super("refused by " + number);
            this.number = number;
        }
    }

    static final class Faulty extends RuntimeException {
        final int number;
        final int place;

        Faulty(int number, int place) {
            super("fault " + number + " at " + place);
            this.number = number;
            this.place = place;
        }
    }

    static final class Entry {
        Table table;
        int frame = -1;
        boolean w;
        boolean u;
    }

    static final class Table {
        final String kind;
        final int of;
        boolean loose;
        final Map<Integer, Entry> entries = new HashMap<>();

        Table(String kind, int of) {
            this.kind = kind;
            this.of = of;
        }
    }

    /** What changes by acts. */
    static final class World {
        final int[][] words = new int[16][8];
        final Map<Integer, Integer> host = new HashMap<>();
        final Set<Integer> rw = new HashSet<>();
        final Set<Integer> marks = new HashSet<>();
        int root;
        Table[] pool = new Table[0];
        List<Table> made = new ArrayList<>();
        int faults;
        int refused;
        int hits;
        int traps;
        int drops;

        World copy(int tables) {
            World c = new World();
            for (int f = 0; f < 16; f++) {
                c.words[f] = words[f].clone();
            }
            c.host.putAll(host);
            c.rw.addAll(rw);
            c.marks.addAll(marks);
            c.root = root;
            c.pool = new Table[tables];
            Map<Table, Table> twin = new HashMap<>();
            for (Table t : made) {
                Table copy = new Table(t.kind, t.of);
                copy.loose = t.loose;
                twin.put(t, copy);
                c.made.add(copy);
            }
            for (Table t : made) {
                for (Map.Entry<Integer, Entry> e : t.entries.entrySet()) {
                    Entry copy = new Entry();
                    copy.frame = e.getValue().frame;
                    copy.table = e.getValue().table == null ? null : twin.get(e.getValue().table);
                    copy.w = e.getValue().w;
                    copy.u = e.getValue().u;
                    twin.get(t).entries.put(e.getKey(), copy);
                }
            }
            for (int n = 0; n < Math.min(tables, pool.length); n++) {
                c.pool[n] = pool[n] == null ? null : twin.get(pool[n]);
            }
            return c;
        }

        void counts(World other) {
            faults = other.faults;
            refused = other.refused;
            hits = other.hits;
            traps = other.traps;
            drops = other.drops;
        }

        static boolean p(int word) {
            return word % 2 == 1;
        }

        static boolean bit(int word, int which) {
            return word / which % 2 == 1;
        }

        /** Frame, or -2; rights no matter. */
        int leads(int v) {
            int a = words[root][v / 8];
            if (!p(a)) {
                return -2;
            }
            if (bit(a, 32)) {
                return (a / 256 < 8 ? 0 : 8) + v % 8;
            }
            int b = words[a / 256][v % 8];
            return p(b) ? b / 256 : -2;
        }

        int look(int v, boolean write, boolean user) {
            int a = words[root][v / 8];
            if (!p(a)) {
                return -2;
            }
            if (write && !bit(a, 2) || user && !bit(a, 4)) {
                return -3;
            }
            if (!bit(a, 32)) {
                int b = words[a / 256][v % 8];
                if (!p(b)) {
                    return -2;
                }
                if (write && !bit(b, 2) || user && !bit(b, 4)) {
                    return -3;
                }
            }
            int f = leads(v);
            if (!host.containsKey(f)) {
                return -4;
            }
            return write && !rw.contains(f) ? -3 : host.get(f);
        }

        Table there(String kind, int of) {
            for (Table t : made) {
                if (t.kind.equals(kind) && t.of == of) {
                    return t;
                }
            }
            return null;
        }

        boolean watched(int f) {
            for (Table t : made) {
                if (t.of == f && (t.kind.equals("root") || t.kind.equals("leaf") && !t.loose)) {
                    return true;
                }
            }
            return false;
        }

        List<Entry> maps(int f) {
            List<Entry> list = new ArrayList<>();
            for (Table t : made) {
                for (Entry e : t.entries.values()) {
                    if (!t.kind.equals("root") && e.frame == f) {
                        list.add(e);
                    }
                }
            }
            return list;
        }

        Entry hit(int v, boolean write, boolean user) {
            Table r = there("root", root);
            Entry a = r == null ? null : r.entries.get(v / 8);
            Entry b = a == null ? null : a.table.entries.get(v % 8);
            if (b == null || write && !(a.w && b.w) || user && !(a.u && b.u)) {
                return null;
            }
            return b;
        }

        int hits(int v, boolean write, boolean user) {
            Entry e = hit(v, write, user);
            return e == null ? -2 : host.get(e.frame);
        }

        Table next() {
            for (Table t : made) {
                if (!(t.kind.equals("root") && t.of == root)) {
                    return t;
                }
            }
            throw new IllegalStateException();
        }

        Table make(String kind, int of) {
            Table old = there(kind, of);
            if (old != null) {
                return old;
            }
            int free = 0;
            while (free < pool.length && pool[free] != null) {
                free++;
            }
            if (free == pool.length) {
                Table gone = next();
                for (int n = 0; n < pool.length; n++) {
                    if (pool[n] == gone) {
                        free = n;
                    }
                }
                made.remove(gone);
                for (Table t : made) {
                    t.entries.values().removeIf(e -> e.table == gone);
                }
                drops++;
            }
            Table fresh = new Table(kind, of);
            pool[free] = fresh;
            made.add(fresh);
            if (watched(of) && !kind.equals("broken")) {
                maps(of).forEach(e -> e.w = false);
            }
            return fresh;
        }

        int access(int v, boolean write, boolean user) {
            Entry e = hit(v, write, user);
            if (e != null) {
                hits++;
                return host.get(e.frame);
            }
            faults++;
            int look = look(v, write, user);
            if (look < 0) {
                refused++;
                return look;
            }
            int f = leads(v);
            int up = words[root][v / 8];
            boolean large = bit(up, 32);
            words[root][v / 8] |= 8;
            if (large) {
                words[root][v / 8] |= write ? 16 : 0;
            } else {
                words[up / 256][v % 8] |= write ? 24 : 8;
            }
            if (write) {
                marks.add(f);
            }
            Table r = make("root", root);
            Table low = large ? make("broken", up / 256 / 8 * 8) : make("leaf", up / 256);
            up = words[root][v / 8];
            Entry a = new Entry();
            a.table = low;
            a.w = bit(up, 2) && (!large || bit(up, 16));
            a.u = bit(up, 4);
            r.entries.put(v / 8, a);
            Entry b = new Entry();
            int word = large ? 0 : words[up / 256][v % 8];
            b.frame = f;
            b.u = large || bit(word, 4);
            b.w = (large || bit(word, 2) && bit(word, 16)) && rw.contains(f) && marks.contains(f) && !watched(f);
            low.entries.put(v % 8, b);
            return look;
        }

        int store(int v, int i, int value, boolean user) {
            Entry e = hit(v, true, user);
            int f = e == null ? leads(v) : e.frame;
            int answer = access(v, true, user);
            if (answer < 0) {
                return answer;
            }
            words[f][i] = value;
            if (e != null || !watched(f)) {
                return answer;
            }
            traps++;
            Entry told = there("root", root).entries.get(v / 8).table.entries.get(v % 8);
            for (Table t : made) {
                if (t.kind.equals("root") && t.of == f) {
                    t.entries.remove(i);
                }
                if (t.kind.equals("leaf") && t.of == f) {
                    t.loose = true;
                }
            }
            if (!watched(f)) {
                told.w = true;
            }
            return answer;
        }

        int load(int f) {
            root = f;
            int count = 0;
            for (Table t : made) {
                if (t.loose) {
                    count++;
                    t.loose = false;
                    int[] now = words[t.of];
                    t.entries.entrySet().removeIf(e -> !p(now[e.getKey()]) || now[e.getKey()] / 256 != e.getValue().frame);
                    t.entries.forEach((i, e) -> {
                        e.u &= bit(now[i], 4);
                        e.w &= bit(now[i], 2) && bit(now[i], 16);
                    });
                }
            }
            for (int g = 0; g < 16; g++) {
                if (watched(g)) {
                    maps(g).forEach(e -> e.w = false);
                }
            }
            return count;
        }

        int flush(int v) {
            Table r = there("root", root);
            Entry a = r == null ? null : r.entries.get(v / 8);
            return a != null && a.table.entries.remove(v % 8) != null ? 1 : 0;
        }

        int device(int f, int i, int value) {
            words[f][i] = value;
            marks.add(f);
            int count = 0;
            for (Table t : made) {
                if (!t.kind.equals("broken") && t.of == f && !t.loose && t.entries.remove(i) != null) {
                    count++;
                }
            }
            return count;
        }

        int unmap(int f) {
            host.remove(f);
            rw.remove(f);
            int count = 0;
            for (Table t : made) {
                int before = t.entries.size();
                t.entries.values().removeIf(e -> e.table == null && e.frame == f);
                count += before - t.entries.size();
            }
            return count;
        }

        int strip(int f) {
            int count = 0;
            for (Entry e : maps(f)) {
                count += e.w ? 1 : 0;
                e.w = false;
            }
            return count;
        }
    }

    private final StringBuilder tape = new StringBuilder();
    private boolean there;
    private World first;
    private World now = new World();
    private int pool;
    private int wordLines;
    private List<int[]> run;
    private List<int[]> unsure;
    private List<int[]> saw;
    private final Deque<World> past = new ArrayDeque<>();
    private final List<World> images = new ArrayList<>();
    private int trouble;
    private int fault;
    private int where;

    // ---- the text

    private static final Pattern TOKENS = Pattern.compile(" *([a-z]+|[0-9]+|;|[^ ])");

    private static final class Reader {
        final List<String> tokens = new ArrayList<>();
        final List<Integer> places = new ArrayList<>();
        int at;

        Reader(String text) {
            Matcher m = TOKENS.matcher(text);
            while (m.find()) {
                tokens.add(m.group(1));
                places.add(m.start(1));
            }
            tokens.add("END");
            places.add(text.length());
        }

        String peek() {
            return tokens.get(at);
        }

        Faulty bad(int number) {
            return new Faulty(number, places.get(at));
        }

        int one(String... choices) {
            for (int c = 0; c < choices.length; c++) {
                if (choices[c].equals(peek())) {
                    at++;
                    return c;
                }
            }
            throw bad(1);
        }

        int whole(int least, int most, Set<Integer> not) {
            if (!peek().matches("[0-9]{1,4}")) {
                throw bad(1);
            }
            int value = Integer.parseInt(peek());
            if (not.contains(value)) {
                throw bad(3);
            }
            if (value < least || value > most) {
                throw bad(4);
            }
            at++;
            return value;
        }
    }

    private void read(String text) {
        Reader r = new Reader(text);
        World w = new World();
        int tables = 0;
        Map<String, Integer> lines = new HashMap<>(Map.of("host", 16, "word", 24, "run", 10, "unsure", 4, "saw", 6));
        List<int[]> runs = new ArrayList<>();
        List<int[]> unsures = new ArrayList<>();
        List<int[]> saws = new ArrayList<>();
        Map<Integer, Set<Integer>> words = new HashMap<>();
        Map<Integer, Set<Integer>> doubts = new HashMap<>();
        Set<Integer> seen = new HashSet<>();
        String[] modes = {"r", "w", "ur", "uw"};
        while (true) {
            String sort = r.peek();
            if (sort.equals("machine")) {
                if (tables > 0) {
                    throw r.bad(3);
                }
                r.at++;
                r.one("pool");
                tables = r.whole(3, 8, Set.of());
                r.one("root");
                w.root = r.whole(0, 15, Set.of());
            } else {
                if (!lines.containsKey(sort)) {
                    throw r.bad(1);
                }
                if (tables == 0) {
                    throw r.bad(6);
                }
                if (lines.merge(sort, -1, Integer::sum) < 0) {
                    throw r.bad(5);
                }
                r.at++;
                if (sort.equals("host")) {
                    int f = r.whole(0, 15, w.host.keySet());
                    int h = r.whole(0, 31, new HashSet<>(w.host.values()));
                    if (r.one("ro", "rw") == 1) {
                        w.rw.add(f);
                    }
                    w.host.put(f, h);
                } else if (sort.equals("word") || sort.equals("unsure")) {
                    int f = r.whole(0, 15, Set.of());
                    Map<Integer, Set<Integer>> told = sort.equals("word") ? words : doubts;
                    int i = r.whole(0, 7, told.computeIfAbsent(f, g -> new HashSet<>()));
                    int value = r.whole(0, 4095, Set.of());
                    told.get(f).add(i);
                    if (sort.equals("word")) {
                        w.words[f][i] = value;
                    } else {
                        unsures.add(new int[] {f, i, value});
                    }
                } else {
                    int v = r.whole(0, 63, Set.of());
                    int mode = r.one(modes);
                    if (sort.equals("run")) {
                        runs.add(new int[] {v, mode});
                    } else {
                        r.at--;
                        if (!seen.add(v * 4 + mode)) {
                            throw r.bad(3);
                        }
                        r.at++;
                        saws.add(new int[] {v, mode, r.one("done", "", "absent", "denied", "gone")});
                    }
                }
            }
            if (r.peek().equals("END")) {
                break;
            }
            r.one(";");
        }
        pool = tables;
        first = w;
        now = w.copy(tables);
        run = runs;
        unsure = unsures;
        saw = saws;
        wordLines = 24 - lines.get("word");
    }

    // ---- the calls, by their names

    private int frame(int f) {
        return in(f, there ? 16 : 0);
    }

    private int page(int v) {
        return in(v, there ? 64 : 0);
    }

    private int in(int n, int many) {
        if (n < 0 || n >= many) {
            throw new Refusal(1);
        }
        return n;
    }

    private void must(boolean so, int number) {
        if (!so) {
            throw new Refusal(number);
        }
    }

    private World act() {
        past.addLast(now.copy(pool));
        if (past.size() > 16) {
            past.removeFirst();
        }
        return now;
    }

    private World runOn(int tables) {
        World w = first.copy(tables);
        for (int[] r : run) {
            w.access(r[0], r[1] % 2 == 1, r[1] >= 2);
        }
        return w;
    }

    private World drawn(int seed, int n) {
        must(there, 1);
        must(seed >= 0 && seed <= 65536 && n >= 0 && n <= 200, 2);
        World w = now.copy(pool);
        long s = seed;
        for (int i = 0; i < n; i++) {
            s = (75 * s + 74) % 65537;
            int v = (int) (s % 64);
            s = (75 * s + 74) % 65537;
            int mode = (int) (s % 4);
            w.access(v, mode == 1 || mode == 3, mode >= 2);
        }
        return w;
    }

    private static int bits(Iterable<Integer> set) {
        int sum = 0;
        for (int i : set) {
            sum += 1 << i;
        }
        return sum;
    }

    private int firstUnlike(World w) {
        for (int s = 0; s < saw.size(); s++) {
            int[] x = saw.get(s);
            int look = w.look(x[0], x[1] % 2 == 1, x[1] >= 2);
            if (x[2] == 0 ? look < 0 : look != -x[2]) {
                return s;
            }
        }
        return -2;
    }

    private List<Integer> fitting() {
        must(there, 1);
        List<Integer> list = new ArrayList<>();
        for (int set = 0; set < 1 << unsure.size(); set++) {
            World w = first.copy(0);
            for (int u = 0; u < unsure.size(); u++) {
                if ((set >> u & 1) == 1) {
                    w.words[unsure.get(u)[0]][unsure.get(u)[1]] = unsure.get(u)[2];
                }
            }
            if (firstUnlike(w) < 0) {
                list.add(set);
            }
        }
        return list;
    }

    private int[] asked() {
        List<Integer> fits = fitting();
        int[] best = {-2, -2};
        for (int u = 0; u < unsure.size() && !fits.isEmpty(); u++) {
            int which = u;
            int with = (int) fits.stream().filter(s -> (s >> which & 1) == 1).count();
            int left = Math.max(with, fits.size() - with);
            if (best[0] < 0 || left < best[1]) {
                best = new int[] {u, left};
            }
        }
        return best;
    }

    private int ways(boolean stale, boolean place) {
        must(there, 1);
        int count = 0;
        for (int v = 0; v < 64; v++) {
            for (int mode = 0; mode < 4; mode++) {
                int look = now.look(v, mode % 2 == 1, mode >= 2);
                int hits = now.hits(v, mode % 2 == 1, mode >= 2);
                if (stale ? hits >= 0 && hits != look : hits < 0 && look >= 0) {
                    count++;
                    if (place) {
                        return v;
                    }
                }
            }
        }
        return place ? -2 : count;
    }

    private int number(Table t) {
        for (int n = 0; n < pool; n++) {
            if (now.pool[n] == t) {
                return n;
            }
        }
        throw new IllegalStateException();
    }

    private int shadow(int n, int what) {
        in(n, there ? pool : 0);
        in(what, 6);
        Table t = now.pool[n];
        if (t == null) {
            return what < 2 ? -2 : 0;
        }
        switch (what) {
            case 0: return List.of("root", "leaf", "broken").indexOf(t.kind);
            case 1: return t.of;
            case 2: return t.loose ? 1 : 0;
            case 3: return bits(t.entries.keySet());
            case 4: return now.made.indexOf(t);
            default: return (int) now.made.stream().flatMap(o -> o.entries.values().stream()).filter(e -> e.table == t).count();
        }
    }

    private int entry(int n, int i) {
        in(n, there ? pool : 0);
        in(i, 8);
        Entry e = now.pool[n] == null ? null : now.pool[n].entries.get(i);
        if (e == null) {
            return -2;
        }
        return (e.table == null ? e.frame : number(e.table)) * 4 + (e.w ? 2 : 0) + (e.u ? 1 : 0);
    }

    /** Pages that lead somewhere: a drawn run is dull without them. */
    List<Integer> mapped() {
        List<Integer> pages = new ArrayList<>();
        for (int v = 0; v < 64; v++) {
            if (there && now.leads(v) >= 0) {
                pages.add(v);
            }
        }
        return pages;
    }

    private int size(int what) {
        if (what < 0 || what > 11) {
            return -1;
        }
        if (what == 11) {
            return tape.length();
        }
        if (!there) {
            return 0;
        }
        int[] all = {pool, now.host.size(), wordLines, run.size(), unsure.size(), saw.size(), now.faults, now.traps,
            now.drops, past.size(), images.size()};
        return all[what];
    }

    private int led(int i) {
        List<Integer> free = new ArrayList<>();
        for (int n = 0; there && n < pool; n++) {
            if (now.pool[n] == null) {
                free.add(n);
            }
        }
        if (i < 0 || i >= free.size()) {
            throw new NoSuchElementException();
        }
        return free.get(i);
    }

    private int machine(int n) {
        must(n >= 0 && n <= tape.length(), 2);
        String text = tape.substring(0, n);
        tape.setLength(0);
        fault = 0;
        try {
            read(text);
        } catch (Faulty f) {
            fault = f.number;
            where = f.place;
            throw new Refusal(4);
        }
        there = true;
        past.clear();
        images.clear();
        return pool;
    }

    private long rate(boolean lower) {
        must(there, 1);
        long all = now.hits + now.faults;
        long hit = now.hits;
        for (long d = all; d > 1; d--) {
            if (hit % d == 0 && all % d == 0) {
                hit /= d;
                all /= d;
            }
        }
        return lower ? Math.max(all, 1) : hit;
    }

    private void restore(World w) {
        World copy = w.copy(pool);
        copy.counts(now);
        now = copy;
    }

    /** The answer of a call; false is refused or 0, as told by the test. */
    long call(String name, int[] a) {
        switch (name) {
            case "feed":
                if (tape.length() + 20 > 900) {
                    return -1;
                }
                for (int k = 0; k < 20; k++) {
                    tape.append((char) (a[k / 4] >>> 24 - k % 4 * 8 & 255));
                }
                return tape.length();
            case "fault": return fault;
            case "where": return trouble == 4 ? where : -1;
            case "trouble": return trouble;
            case "size": return size(a[0]);
            case "led": return led(a[0]);
            default:
        }
        try {
            long answer = refusable(name, a);
            trouble = 0;
            return answer;
        } catch (Refusal r) {
            trouble = r.number;
            return List.of("give", "undo", "back").contains(name) ? 0 : -1;
        }
    }

    private long refusable(String name, int[] a) {
        switch (name) {
            case "machine": return machine(a[0]);
            case "word": return now.words[frame(a[0])][in(a[1], 8)];
            case "backing": return now.host.getOrDefault(frame(a[0]), -2);
            case "writes": return now.rw.contains(frame(a[0])) ? 1 : 0;
            case "wordsWith": {
                frame(a[0]);
                must(a[1] >= 1 && a[1] <= 63, 2);
                List<Integer> places = new ArrayList<>();
                for (int i = 0; i < 8; i++) {
                    if ((~now.words[a[0]][i] & a[1]) == 0) {
                        places.add(i);
                    }
                }
                return bits(places);
            }
            case "look": return now.look(page(a[0]), a[1] == 1, a[2] == 1);
            case "leads": return now.leads(page(a[0]));
            case "rights": {
                int sum = 0;
                for (int mode = 0; mode < 4; mode++) {
                    sum += now.look(page(a[0]), mode % 2 == 1, mode >= 2) >= 0 ? 1 << mode : 0;
                }
                page(a[0]);
                return sum;
            }
            case "large": {
                int word = now.words[now.root][page(a[0]) / 8];
                return World.p(word) ? word / 32 % 2 : -2;
            }
            case "aliases": {
                frame(a[0]);
                int count = 0;
                for (int v = 0; v < 64; v++) {
                    count += now.leads(v) == a[0] ? 1 : 0;
                }
                return count;
            }
            case "hits": return now.hits(page(a[0]), a[1] == 1, a[2] == 1);
            case "shadow": return shadow(a[0], a[1]);
            case "entry": return entry(a[0], a[1]);
            case "maps": return now.maps(frame(a[0])).size();
            case "writers": return now.maps(frame(a[0])).stream().filter(e -> e.w).count();
            case "watched": return now.watched(frame(a[0])) ? 1 : 0;
            case "undo":
                must(!past.isEmpty(), 6);
                restore(past.removeLast());
                return 1;
            case "back":
                restore(images.get(in(a[0], images.size())));
                past.clear();
                return 1;
            case "sweep": {
                page(a[0]);
                page(a[1]);
                must(a[1] >= a[0], 2);
                World w = now.copy(pool);
                for (int v = a[0]; v <= a[1]; v++) {
                    w.access(v, false, false);
                }
                return w.faults;
            }
            default: return actOrWhole(name, a);
        }
    }

    private long actOrWhole(String name, int[] a) {
        switch (name) {
            case "access":
                page(a[0]);
                return act().access(a[0], a[1] == 1, a[2] == 1);
            case "store":
                page(a[0]);
                in(a[1], 8);
                must(a[2] >= 0 && a[2] <= 4095, 2);
                return act().store(a[0], a[1], a[2], a[3] == 1);
            case "load":
                frame(a[0]);
                return act().load(a[0]);
            case "flush":
                page(a[0]);
                return act().flush(a[0]);
            case "device":
                frame(a[0]);
                in(a[1], 8);
                must(a[2] >= 0 && a[2] <= 4095, 2);
                must(now.host.containsKey(a[0]), 5);
                return act().device(a[0], a[1], a[2]);
            case "unmap":
                must(now.host.containsKey(frame(a[0])), 5);
                return act().unmap(a[0]);
            case "give":
                frame(a[0]);
                must(a[1] >= 0 && a[1] <= 31, 2);
                must(!now.host.containsKey(a[0]) && !now.host.containsValue(a[1]), 5);
                act().host.put(a[0], a[1]);
                now.marks.remove(a[0]);
                if (a[2] == 1) {
                    now.rw.add(a[0]);
                }
                return 1;
            case "protect":
                frame(a[0]);
                must(now.rw.contains(a[0]), 5);
                act().rw.remove(a[0]);
                return now.strip(a[0]);
            case "clean":
                frame(a[0]);
                act().strip(a[0]);
                return now.marks.remove(a[0]) ? 1 : 0;
            default:
        }
        must(there, 1);
        switch (name) {
            case "root": return now.root;
            case "marks": return bits(now.marks);
            case "tables": {
                Set<Integer> frames = new HashSet<>();
                for (int word : now.words[now.root]) {
                    if (World.p(word) && word / 32 % 2 == 0) {
                        frames.add(word / 256);
                    }
                }
                return bits(frames);
            }
            case "stale": return ways(true, false);
            case "staleAt": return ways(true, true);
            case "missing": return ways(false, false);
            case "outOfStep": {
                int sum = 0;
                for (Table t : now.made) {
                    sum += t.loose ? 1 << number(t) : 0;
                }
                return sum;
            }
            case "dropsNext": return now.made.size() < pool ? -2 : number(now.next());
            case "runFaults":
            case "runRefused":
            case "runDrops":
                must(a[0] >= 3 && a[0] <= 8, 2);
                World w = runOn(a[0]);
                return name.equals("runFaults") ? w.faults : name.equals("runDrops") ? w.drops : w.refused;
            case "poolFor":
                must(a[0] >= 0 && a[0] <= 10, 2);
                for (int tables = 3; tables <= 8; tables++) {
                    if (runOn(tables).faults <= a[0]) {
                        return tables;
                    }
                }
                return -2;
            case "drawnFaults": return drawn(a[0], a[1]).faults;
            case "drawnMarks": return bits(drawn(a[0], a[1]).marks);
            case "rate": return rate(a[0] == 1);
            case "fits": return fitting().size();
            case "fitAt": {
                List<Integer> fits = fitting();
                return fits.get(in(a[0], fits.size()));
            }
            case "could": return fitting().stream().reduce(0, (x, y) -> x | y);
            case "surely": return fitting().stream().reduce((x, y) -> x & y).orElse(0);
            case "ask": return asked()[0];
            case "askLeaves": return asked()[1];
            case "judge": return firstUnlike(first);
            case "image":
                must(images.size() < 3, 3);
                images.add(now.copy(pool));
                return images.size() - 1;
            default: throw new IllegalStateException(name);
        }
    }
}
