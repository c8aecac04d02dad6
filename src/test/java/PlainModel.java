import java.io.ByteArrayInputStream;
import java.io.ByteArrayOutputStream;
import java.io.IOException;
import java.io.ObjectInputStream;
import java.io.ObjectOutputStream;
import java.io.Serializable;
import java.util.ArrayList;
import java.util.Arrays;
import java.util.List;

/**
 * The document told a second time, as plainly as objects, lists and exceptions can, and without a thought
 * for cost: what RandomRuns compares MagazineDepot with. It shares no line with it.
 */
final class PlainModel {
    static final int BAD = -1, NOT = -2, FULL = -3, STATE = -5, VOID = -2000000000;

    // ---- kinds under one another

    static class Plain implements Serializable {
        int makes(int a) { return a & 255; }
        boolean fit(int a, int w) { return true; }
        long ends(int w) { return w & 15; }
    }

    static class Zero extends Plain {
        @Override int makes(int a) { return 0; }
        @Override boolean fit(int a, int w) { return w == makes(a); }
    }

    static class Stamp extends Zero {
        @Override int makes(int a) { return super.makes(a) ^ a >>> 3; }
        @Override long ends(int w) { return super.ends(w) + 1; }
    }

    static class Ring extends Stamp {
        @Override int makes(int a) { return Integer.rotateLeft(super.makes(a), 5); }
    }

    static class Lock extends Plain {
        @Override boolean fit(int a, int w) { return w % 2 == 0; }
    }

    static class Count extends Lock {
        @Override int makes(int a) { return super.makes(a) << 1; }
        @Override boolean fit(int a, int w) { return super.fit(a, w) && w >= 0; }
        @Override long ends(int w) { return super.ends(w) * 3; }
    }

    static Plain kindOf(int kind) {
        switch (kind) {
            case 0: return new Plain();
            case 1: return new Zero();
            case 2: return new Stamp();
            case 3: return new Ring();
            case 4: return new Lock();
            default: return new Count();
        }
    }

    // ---- what an image keeps

    static final class Buf implements Serializable {
        CacheM cache;
        int address;
        int word;
        char where = 'F';
    }

    static final class Slab implements Serializable {
        CacheM cache;
        int page, colour;
        List<Buf> bufs = new ArrayList<>();
        int tail() { return 1024 - 32 - colour - bufs.size() * cache.size; }
    }

    static final class Mag implements Serializable {
        List<Buf> bufs = new ArrayList<>();
        Buf pop() { return bufs.remove(bufs.size() - 1); }
    }

    static final class CacheM implements Serializable {
        int number, kindNumber, size, step, rounds = 2, limit = 4, visits, quiet, leastFull, leastEmpty;
        int made, ended;
        long tally;
        Plain kind;
        List<Integer> colours = new ArrayList<>();
        Mag[] loaded = new Mag[4], previous = new Mag[4];
        List<Mag> full = new ArrayList<>(), empty = new ArrayList<>();

        int per() { return 992 / size; }

        int nextColour() {
            if (colours.isEmpty()) return 0;
            int more = colours.get(colours.size() - 1) + step;
            return 992 - more - per() * size >= 0 ? more : 0;
        }

        List<Mag> all() {
            List<Mag> out = new ArrayList<>();
            for (int p = 0; p < 4; p++) {
                if (loaded[p] != null) out.add(loaded[p]);
                if (previous[p] != null) out.add(previous[p]);
            }
            out.addAll(full);
            out.addAll(empty);
            return out;
        }

        void least() {
            leastFull = Math.min(leastFull, full.size());
            leastEmpty = Math.min(leastEmpty, empty.size());
        }

        void end(Buf b) {
            tally += kind.ends(b.word);
            ended++;
            b.where = 'F';
        }

        void emptied(Mag m) {
            for (Buf b : m.bufs) end(b);
            m.bufs.clear();
        }

        int unmakeAll() {
            int n = all().size();
            for (Mag m : all()) emptied(m);
            full.clear();
            empty.clear();
            Arrays.fill(loaded, null);
            Arrays.fill(previous, null);
            least();
            return n;
        }
    }

    static final class World implements Serializable {
        Slab[] pages = new Slab[32];
        List<CacheM> caches = new ArrayList<>();
        int intervals, visits;

        World copy() {
            try {
                ByteArrayOutputStream bytes = new ByteArrayOutputStream();
                try (ObjectOutputStream out = new ObjectOutputStream(bytes)) {
                    out.writeObject(this);
                }
                return (World) new ObjectInputStream(new ByteArrayInputStream(bytes.toByteArray())).readObject();
            } catch (IOException | ClassNotFoundException e) {
                throw new IllegalStateException(e);
            }
        }

        List<Buf> bufs() {
            List<Buf> out = new ArrayList<>();
            for (Slab s : pages) if (s != null) out.addAll(s.bufs);
            return out;
        }

        Buf begins(int address) {
            for (Buf b : bufs()) if (b.address == address) return b;
            return null;
        }

        Buf live(int address) {
            Buf b = begins(address);
            return b != null && b.where == 'L' ? b : null;
        }

        int many(char where, CacheM of) {
            int n = 0;
            for (Buf b : bufs()) if (b.where == where && (of == null || b.cache == of)) n++;
            return n;
        }

        int made() {
            int n = 0;
            for (CacheM c : caches) n += c.all().size();
            return n;
        }

        CacheM cache(int c) { return c >= 0 && c < caches.size() ? caches.get(c) : null; }

        Buf take(CacheM c, int p) {
            Buf b = takeMade(c, p);
            if (b == null) b = takeNew(c);
            if (b != null) b.where = 'L';
            return b;
        }

        private Buf takeMade(CacheM c, int p) {
            if (c.loaded[p] != null && !c.loaded[p].bufs.isEmpty()) return c.loaded[p].pop();
            if (c.previous[p] != null && !c.previous[p].bufs.isEmpty()) {
                Mag m = c.loaded[p];
                c.loaded[p] = c.previous[p];
                c.previous[p] = m;
                return c.loaded[p].pop();
            }
            if (c.full.isEmpty()) return null;
            c.visits++;
            visits++;
            Mag fetched = c.full.remove(c.full.size() - 1);
            if (c.previous[p] != null) c.empty.add(c.previous[p]);
            c.previous[p] = c.loaded[p];
            c.loaded[p] = fetched;
            c.least();
            return fetched.pop();
        }

        private Buf takeNew(CacheM c) {
            for (int round = 0; round < 2; round++) {
                for (Slab s : pages) {
                    if (s == null || s.cache != c) continue;
                    for (Buf b : s.bufs) {
                        if (b.where == 'F') {
                            b.word = c.kind.makes(b.address);
                            c.made++;
                            return b;
                        }
                    }
                }
                int page = Arrays.asList(pages).indexOf(null);
                if (page < 0) return null;
                pages[page] = slab(c, page);
            }
            return null;
        }

        private Slab slab(CacheM c, int page) {
            Slab s = new Slab();
            s.cache = c;
            s.page = page;
            s.colour = c.nextColour();
            c.colours.add(s.colour);
            for (int i = 0; i < c.per(); i++) {
                Buf b = new Buf();
                b.cache = c;
                b.address = page * 1024 + 32 + s.colour + i * c.size;
                s.bufs.add(b);
            }
            return s;
        }

        void give(Buf b, int p) {
            CacheM c = b.cache;
            if (c.loaded[p] != null && c.loaded[p].bufs.size() < c.rounds) {
                c.loaded[p].bufs.add(b);
                b.where = 'M';
                return;
            }
            if (c.previous[p] != null && c.previous[p].bufs.size() < c.rounds) {
                Mag m = c.loaded[p];
                c.loaded[p] = c.previous[p];
                c.previous[p] = m;
                c.loaded[p].bufs.add(b);
                b.where = 'M';
                return;
            }
            Mag got;
            if (!c.empty.isEmpty()) {
                got = c.empty.remove(c.empty.size() - 1);
            } else if (made() < 24) {
                got = new Mag();
            } else {
                c.end(b);
                return;
            }
            c.visits++;
            visits++;
            if (c.previous[p] != null) c.full.add(c.previous[p]);
            c.previous[p] = c.loaded[p];
            c.loaded[p] = got;
            got.bufs.add(b);
            b.where = 'M';
            c.least();
        }

        int interval() {
            int unmade = 0;
            for (CacheM c : caches) {
                for (int n = c.leastFull; n > 0; n--, unmade++) c.emptied(c.full.remove(0));
                for (int n = c.leastEmpty; n > 0; n--, unmade++) c.empty.remove(0);
                if (c.visits > c.limit && c.rounds < 8) {
                    c.rounds++;
                    unmade += c.unmakeAll();
                }
                if (c.visits == 0) c.quiet++; else c.quiet = 0;
                if (c.quiet == 3) {
                    c.quiet = 0;
                    if (c.rounds > 1) {
                        c.rounds--;
                        unmade += c.unmakeAll();
                    }
                }
                c.visits = 0;
                c.leastFull = c.full.size();
                c.leastEmpty = c.empty.size();
            }
            intervals++;
            return unmade;
        }
    }

    // ---- the trace

    static final class Stop extends Exception {
        final int why;
        Stop(int why) { super(null, null, false, false); this.why = why; }
    }

    static final class S {
        char act;
        int v, c, p, n;
        List<S> inner;
    }

    /** Reads byte by byte: what may come next is a set of states, each byte leads on or is at fault. */
    static int fault(String text) {
        String state = "begin";
        int open = 0;
        for (int i = 0; i < text.length(); i++) {
            char b = text.charAt(i);
            boolean digit = b >= '0' && b <= '9', four = b >= '0' && b <= '3', letter = b >= 'a' && b <= 'z';
            String next = null;
            switch (state) {
                case "begin":
                    next = letter ? "named" : b == '~' ? "tilde" : b == '!' ? "end" : b == '?' ? "ask" : digit ? "n1" : null;
                    break;
                case "named": next = b == '=' ? "cache" : b == ':' ? "v0" : null; break;
                case "cache": next = four ? "at" : null; break;
                case "at": next = b == '@' ? "processor" : null; break;
                case "processor": next = four ? "end" : null; break;
                case "tilde": next = letter ? "at" : null; break;
                case "ask": next = four ? "open" : null; break;
                case "v0": next = digit ? "v1" : null; break;
                case "v1": next = digit ? "v2" : after(b, open); break;
                case "v2": next = digit ? "end" : after(b, open); break;
                case "end": next = after(b, open); break;
                case "n1": next = digit ? "n2" : opens(b, open); break;
                case "n2": next = digit ? "open" : opens(b, open); break;
                case "open": next = opens(b, open); break;
                default: throw new IllegalStateException(state);
            }
            if (next == null) return i;
            if (b == '(') open++;
            if (b == ')') open--;
            state = next;
        }
        boolean whole = open == 0 && (state.equals("end") || state.equals("v1") || state.equals("v2"));
        return whole ? -1 : text.length();
    }

    private static String after(char b, int open) {
        return b == ';' ? "begin" : b == ')' && open > 0 ? "end" : null;
    }

    private static String opens(char b, int open) { return b == '(' && open < 5 ? "begin" : null; }

    /** A TEXT without fault, split at the ; that stand outside of ( ). */
    static List<S> parse(String text) {
        List<S> out = new ArrayList<>();
        int depth = 0, from = 0;
        for (int i = 0; i <= text.length(); i++) {
            char b = i == text.length() ? ';' : text.charAt(i);
            if (b == '(') depth++;
            if (b == ')') depth--;
            if (b == ';' && depth == 0) {
                out.add(one(text.substring(from, i)));
                from = i + 1;
            }
        }
        return out;
    }

    private static S one(String text) {
        S s = new S();
        int paren = text.indexOf('(');
        if (paren >= 0) {
            s.inner = parse(text.substring(paren + 1, text.length() - 1));
            s.act = text.charAt(0) == '?' ? '?' : 'N';
            if (s.act == '?') s.c = text.charAt(1) - '0'; else s.n = Integer.parseInt(text.substring(0, paren));
        } else if (text.charAt(0) == '!') {
            s.act = '!';
        } else if (text.charAt(0) == '~') {
            s.act = '~';
            s.v = text.charAt(1) - 'a';
            s.p = text.charAt(3) - '0';
        } else {
            s.act = text.charAt(1);
            s.v = text.charAt(0) - 'a';
            if (s.act == '=') {
                s.c = text.charAt(2) - '0';
                s.p = text.charAt(4) - '0';
            } else {
                s.n = Integer.parseInt(text.substring(2));
            }
        }
        return s;
    }

    static final class Going {
        final World w;
        final Integer[] vars;
        int steps, why;

        Going(World w, Integer[] vars, List<S> text) {
            this.w = w;
            this.vars = vars;
            try {
                go(text);
            } catch (Stop stop) {
                why = stop.why;
            }
        }

        private void step() throws Stop {
            if (steps == 400) throw new Stop(-6);
            steps++;
        }

        private void go(List<S> text) throws Stop {
            for (S s : text) {
                step();
                switch (s.act) {
                    case 'N':
                        for (int i = 0; i < s.n; i++) {
                            step();
                            go(s.inner);
                        }
                        break;
                    case '?':
                        if (w.cache(s.c) == null) throw new Stop(-1);
                        if (!w.cache(s.c).full.isEmpty()) go(s.inner);
                        break;
                    case '!':
                        w.interval();
                        break;
                    case '=':
                        if (w.cache(s.c) == null) throw new Stop(-1);
                        Buf b = w.take(w.cache(s.c), s.p);
                        if (b == null) throw new Stop(-3);
                        vars[s.v] = b.address;
                        break;
                    default:
                        if (vars[s.v] == null) throw new Stop(-11);
                        Buf l = w.live(vars[s.v]);
                        if (l == null) throw new Stop(-1);
                        if (s.act == ':') {
                            l.word = s.n;
                        } else {
                            if (!l.cache.kind.fit(l.address, l.word)) throw new Stop(-5);
                            w.give(l, s.p);
                            vars[s.v] = null;
                        }
                }
            }
        }
    }

    // ---- the object

    World w = new World();
    private World image;
    private String tape = "";
    private List<S> trace;
    private final Integer[] vars = new Integer[26];
    private int why;
    private final Integer[][] bins = new Integer[4][];

    private static boolean in(int v, int from, int to) { return v >= from && v <= to; }

    public int cache(int kind, int size, int step) {
        if (!in(kind, 0, 5) || !in(size, 16, 400) || size % 8 != 0 || !in(step, 8, 64) || step % 8 != 0) return BAD;
        if (w.caches.size() == 4) return FULL;
        CacheM c = new CacheM();
        c.number = w.caches.size();
        c.kindNumber = kind;
        c.kind = kindOf(kind);
        c.size = size;
        c.step = step;
        w.caches.add(c);
        return c.number;
    }

    public int limit(int cache, int v) {
        if (w.cache(cache) == null || !in(v, 0, 99)) return BAD;
        int was = w.cache(cache).limit;
        w.cache(cache).limit = v;
        return was;
    }

    public int take(int cache, int processor) {
        if (w.cache(cache) == null || !in(processor, 0, 3)) return BAD;
        Buf b = w.take(w.cache(cache), processor);
        return b == null ? FULL : b.address;
    }

    public int give(int address, int processor) {
        Buf b = w.live(address);
        if (b == null || !in(processor, 0, 3)) return BAD;
        if (!b.cache.kind.fit(address, b.word)) return STATE;
        w.give(b, processor);
        return w.many('M', b.cache);
    }

    public int write(int address, int v) {
        if (w.live(address) == null) return BAD;
        w.live(address).word = v;
        return 1;
    }

    public long word(int address) {
        Buf b = w.begins(address);
        return b == null || b.where == 'F' ? Long.MIN_VALUE : b.word;
    }

    public int hold(int address) { return lock(address, true); }

    public int letGo(int address) { return lock(address, false); }

    private int lock(int address, boolean held) {
        Buf b = w.live(address);
        if (b == null) return BAD;
        if (!(b.cache.kind instanceof Lock)) return STATE;
        boolean was = b.word % 2 != 0;
        b.word = held ? b.word | 1 : b.word & ~1;
        return was == held ? 0 : 1;
    }

    public int interval() { return w.interval(); }

    public int drain(int cache, int processor) {
        CacheM c = w.cache(cache);
        if (c == null || !in(processor, 0, 3)) return BAD;
        int was = c.ended;
        if (c.loaded[processor] != null) c.emptied(c.loaded[processor]);
        if (c.previous[processor] != null) c.emptied(c.previous[processor]);
        c.loaded[processor] = null;
        c.previous[processor] = null;
        return c.ended - was;
    }

    public int reap(int cache) {
        if (w.cache(cache) == null) return BAD;
        int n = 0;
        for (int i = 0; i < 32; i++) {
            Slab s = w.pages[i];
            if (s != null && s.cache.number == cache && s.bufs.stream().allMatch(b -> b.where == 'F')) {
                w.pages[i] = null;
                n++;
            }
        }
        return n;
    }

    public int state(int address) {
        if (!in(address, 0, 32767)) return BAD;
        Buf b = w.begins(address);
        return b == null ? NOT : "FLM".indexOf(b.where);
    }

    public int owner(int at) {
        if (!in(at, 0, 32767)) return BAD;
        Slab s = w.pages[at / 1024];
        if (s == null) return 0;
        if (at % 1024 < 32) return 1;
        if (at % 1024 < 32 + s.colour) return 2;
        for (Buf b : s.bufs) if (at >= b.address && at < b.address + s.cache.size) return b.where == 'L' ? 4 : b.where == 'M' ? 5 : 6;
        return 3;
    }

    public int bytes(int owner) {
        if (!in(owner, 0, 6)) return BAD;
        int n = 0;
        for (int at = 0; at < 32768; at++) if (owner(at) == owner) n++;
        return n;
    }

    public int page(int page, int what) {
        if (!in(page, 0, 31) || !in(what, 0, 4)) return BAD;
        Slab s = w.pages[page];
        if (s == null) return NOT;
        if (what == 0) return s.cache.number;
        if (what == 1) return s.colour;
        if (what == 2) return s.tail();
        int n = 0, first = NOT;
        for (Buf b : s.bufs) {
            if (b.where != 'F') continue;
            n++;
            if (first == NOT) first = b.address;
        }
        return what == 3 ? n : first;
    }

    public long map(int page, int what) {
        if (!in(page, 0, 31) || !in(what, 0, 1)) return BAD;
        if (w.pages[page] == null) return NOT;
        long bits = 0, bit = 1;
        for (Buf b : w.pages[page].bufs) {
            if (b.where == "FL".charAt(what)) bits |= bit;
            bit *= 2;
        }
        return bits;
    }

    public int of(int cache, int what) {
        CacheM c = w.cache(cache);
        if (c == null || !in(what, 0, 15)) return BAD;
        int slabs = 0;
        for (Slab s : w.pages) if (s != null && s.cache == c) slabs++;
        return new int[] {c.kindNumber, c.size, c.step, c.per(), c.rounds, c.limit, c.visits, c.quiet, c.full.size(),
            c.empty.size(), c.leastFull, c.leastEmpty, slabs, c.nextColour(), c.made, c.ended}[what];
    }

    public long tally(int cache) { return w.cache(cache) == null ? Long.MIN_VALUE : w.cache(cache).tally; }

    public int magazine(int cache, int processor, int what) {
        CacheM c = w.cache(cache);
        if (c == null || !in(processor, 0, 3) || !in(what, 0, 3)) return BAD;
        Mag m = what < 2 ? c.loaded[processor] : c.previous[processor];
        if (m == null) return NOT;
        if (what % 2 == 0) return m.bufs.size();
        return m.bufs.isEmpty() ? NOT : m.bufs.get(m.bufs.size() - 1).address;
    }

    public int lines(int cache, int what) {
        if (w.cache(cache) == null || !in(what, 0, 1)) return BAD;
        List<Integer> lines = new ArrayList<>();
        for (Buf b : w.bufs()) if (b.where == 'L' && b.cache.number == cache) lines.add(b.address / 32 % 16);
        if (what == 0) return (int) lines.stream().distinct().count();
        int pairs = 0;
        for (int i = 0; i < lines.size(); i++) for (int j = 0; j < i; j++) if (lines.get(i).equals(lines.get(j))) pairs++;
        return pairs;
    }

    public int ahead(int cache, int processor, int n, int k) {
        if (w.cache(cache) == null || !in(processor, 0, 3) || !in(n, 1, 40) || !in(k, 0, n - 1)) return BAD;
        World t = w.copy();
        List<Buf> got = new ArrayList<>();
        for (int i = 0; i < n; i++) got.add(t.take(t.cache(cache), processor));
        return got.get(k) == null ? NOT : got.get(k).address;
    }

    public int trip(int cache, int processor, int n, int what) {
        if (w.cache(cache) == null || !in(processor, 0, 3) || !in(n, 1, 40) || !in(what, 0, 2)) return VOID;
        World t = w.copy();
        List<Buf> got = new ArrayList<>();
        for (int i = 0; i < n; i++) {
            Buf b = t.take(t.cache(cache), processor);
            if (b != null) got.add(b);
        }
        for (int i = got.size() - 1; i >= 0; i--) t.give(got.get(i), processor);
        return what == 0 ? t.visits - w.visits : what == 1 ? got.size() : t.made() - w.made();
    }

    public int drawn(int seed, int n, int what) {
        if (!in(n, 1, 400) || !in(what, 0, 3)) return BAD;
        World t = w.copy();
        List<Buf> got = new ArrayList<>();
        int z = seed, full = 0;
        for (int i = 0; i < n; i++) {
            z = z * 1103515245 + 12345;
            int p = (z >>> 8) & 3;
            switch ((z >>> 16) % 5) {
                case 0:
                    t.interval();
                    break;
                case 1:
                case 2:
                    if (!got.isEmpty()) t.give(got.remove(got.size() - 1), p);
                    break;
                default:
                    if (t.caches.isEmpty()) break;
                    Buf b = t.take(t.cache((z >>> 10) % t.caches.size()), p);
                    if (b == null) full++; else got.add(b);
            }
        }
        return new int[] {t.visits - w.visits, t.made(), full, t.many('L', null)}[what];
    }

    public int feed(int letter) {
        if (!in(letter, 0, 255)) return BAD;
        if (tape.length() == 100) return FULL;
        tape += (char) letter;
        return tape.length();
    }

    public int trace() {
        String text = tape;
        tape = "";
        int fault = fault(text);
        if (fault >= 0) return -100 - fault;
        trace = parse(text);
        return 1;
    }

    public int run() {
        if (trace == null) return STATE;
        Going g = new Going(w, vars, trace);
        why = g.why;
        return g.steps;
    }

    public int why() { return why; }

    public int dry(int what) {
        if (!in(what, 0, 3) || trace == null) return VOID;
        World t = w.copy();
        Going g = new Going(t, vars.clone(), trace);
        return new int[] {g.steps, g.why, t.visits - w.visits, t.many('L', null)}[what];
    }

    public int tuned(int what) {
        if (!in(what, 0, 1)) return BAD;
        if (trace == null) return STATE;
        int[] best = {0, Integer.MAX_VALUE};
        for (int r = 1; r <= 8; r++) {
            World t = w.copy();
            for (CacheM c : t.caches) {
                c.unmakeAll();
                c.rounds = r;
            }
            new Going(t, vars.clone(), trace);
            if (t.visits - w.visits < best[1]) best = new int[] {r, t.visits - w.visits};
        }
        return best[what];
    }

    public int names(int variable) {
        if (!in(variable, 0, 25)) return BAD;
        return vars[variable] == null ? NOT : vars[variable];
    }

    public int image() {
        image = w.copy();
        return w.caches.size();
    }

    public int back() {
        if (image == null) return STATE;
        w = image.copy();
        return w.caches.size();
    }

    public int bin(int bin, int n) {
        if (!in(bin, 0, 3) || n > 40) return BAD;
        if (n < 0) return -14;
        bins[bin] = new Integer[n];
        return 1;
    }

    public int lay(int bin, int i, int address) {
        if (!in(bin, 0, 3) || address != -1 && w.live(address) == null) return BAD;
        if (bins[bin] == null) return -11;
        if (!in(i, 0, bins[bin].length - 1)) return -13;
        bins[bin][i] = address == -1 ? null : Integer.valueOf(address);
        return 1;
    }

    public int at(int bin, int i) {
        if (!in(bin, 0, 3)) return BAD;
        if (bins[bin] == null) return -11;
        if (!in(i, 0, bins[bin].length - 1)) return -13;
        return bins[bin][i] == null ? -11 : bins[bin][i];
    }

    public int pour(int bin, int i, int n, int processor) {
        if (!in(bin, 0, 3) || !in(n, 0, 40) || !in(processor, 0, 3)) return BAD;
        int done = 0;
        while (done < n && at(bin, i + done) >= 0 && w.live(at(bin, i + done)) != null) {
            Buf b = w.live(at(bin, i + done));
            if (!b.cache.kind.fit(b.address, b.word)) break;
            w.give(b, processor);
            bins[bin][i + done] = null;
            done++;
        }
        return done;
    }

    public int shift(int bin, int i, int other, int j, int n) {
        if (!in(bin, 0, 3) || !in(other, 0, 3)) return BAD;
        if (bins[bin] == null || bins[other] == null) return -11;
        if (n < 0 || i < 0 || j < 0 || (long) i + n > bins[bin].length || (long) j + n > bins[other].length) return -13;
        Integer[] all = bins[bin].clone();
        for (int k = 0; k < n; k++) bins[other][j + k] = all[i + k];
        return n;
    }

    public int count(int what) {
        int n = 0;
        switch (what) {
            case 0: return w.caches.size();
            case 1: return w.made();
            case 2:
                for (Slab s : w.pages) if (s == null) n++;
                return n;
            case 3: return tape.length();
            case 4: return w.intervals;
            case 5:
                for (Integer v : vars) if (v != null) n++;
                return n;
            case 6: return w.many('L', null);
            case 7: return w.many('M', null);
            default: return BAD;
        }
    }
}
