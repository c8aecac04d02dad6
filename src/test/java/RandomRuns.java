import java.lang.reflect.InvocationTargetException;
import java.lang.reflect.Method;
import java.util.ArrayList;
import java.util.Arrays;
import java.util.HashMap;
import java.util.List;
import java.util.Map;
import java.util.Random;

/**
 * Runs of calls by draws from a fixed seed: MagazineDepot and PlainModel must answer alike.
 * Arguments: how many runs (default 1000), the first seed.
 */
public final class RandomRuns {
    private static final Map<String, Method> OURS = methods(MagazineDepot.class);
    private static final Map<String, Method> MODELS = methods(PlainModel.class);
    private static final int[] ODD = {Integer.MIN_VALUE, Integer.MIN_VALUE + 1, -1000, -2, -1, 0, 1, 2, 3, 4, 5, 6, 7, 8, 16, 25,
        26, 31, 32, 39, 40, 41, 61, 62, 63, 64, 99, 100, 255, 256, 400, 401, 1023, 1024, 32767, 32768, Integer.MAX_VALUE - 1, Integer.MAX_VALUE};

    /** What an object answers behind its 512th call is free. */
    private static final int MOST_CALLS = 512;

    private final Random random;
    private final long seed;
    private final MagazineDepot ours = new MagazineDepot();
    private final PlainModel model = new PlainModel();
    private final List<String> told = new ArrayList<>();
    static final Map<String, Integer> seen = new HashMap<>();
    private int calls;
    private boolean wrong;
    private int bigness;

    private RandomRuns(long seed) {
        this.seed = seed;
        random = new Random(seed);
        bigness = random.nextInt(3);
    }

    private static Map<String, Method> methods(Class<?> of) {
        Map<String, Method> out = new HashMap<>();
        for (Method m : of.getDeclaredMethods()) if (java.lang.reflect.Modifier.isPublic(m.getModifiers())) out.put(m.getName(), m);
        return out;
    }

    public static void main(String[] args) {
        int runs = args.length > 0 ? Integer.parseInt(args[0]) : 1000;
        long first = args.length > 1 ? Long.parseLong(args[1]) : 1;
        if (!OURS.keySet().equals(MODELS.keySet())) throw new IllegalStateException(OURS.keySet() + " " + MODELS.keySet());
        int bad = 0;
        for (long s = first; s < first + runs; s++) if (!new RandomRuns(s).go()) bad++;
        if (args.length > 2) seen.entrySet().stream().sorted(Map.Entry.comparingByKey()).forEach(System.out::println);
        System.out.println(bad == 0 ? "all answers are alike" : bad + " runs differ");
        if (bad != 0) System.exit(1);
    }

    private boolean go() {
        int caches = random.nextInt(20) == 0 ? 0 : 1 + random.nextInt(4);
        for (int i = 0; i < caches; i++) makeCache();
        while (calls < MOST_CALLS && !wrong) act();
        return !wrong;
    }

    private long call(String name, int... args) {
        if (wrong || calls == MOST_CALLS) return 0;
        calls++;
        Object[] boxed = Arrays.stream(args).boxed().toArray();
        try {
            long due = ((Number) MODELS.get(name).invoke(model, boxed)).longValue();
            long got = ((Number) OURS.get(name).invoke(ours, boxed)).longValue();
            told.add(name + Arrays.toString(args) + " -> " + got);
            seen.merge(name + (due == Long.MIN_VALUE ? " NO" : due < 0 && due > -20 || due == -2000000000 ? " " + due : due < 0 ? " <0" : due == 0 ? " 0" : " >0"), 1, Integer::sum);
            if (got != due) {
                wrong = true;
                System.out.println("seed " + seed + ": " + name + Arrays.toString(args) + " answered " + got + ", due is " + due);
                for (String line : told.subList(Math.max(0, told.size() - 40), told.size())) System.out.println("    " + line);
            }
            return due;
        } catch (InvocationTargetException e) {
            throw new IllegalStateException("seed " + seed + ": " + name + Arrays.toString(args), e.getCause());
        } catch (IllegalAccessException e) {
            throw new IllegalStateException(e);
        }
    }

    // ---- arguments

    private int odd() { return random.nextInt(30) == 0 ? random.nextInt() : ODD[random.nextInt(ODD.length)]; }

    private int upTo(int n) { return random.nextInt(25) == 0 ? odd() : random.nextInt(n); }

    private int cacheNo() { return upTo(Math.max(1, model.w.caches.size())); }

    private int processor() { return bigness == 0 && random.nextInt(4) > 0 ? 0 : upTo(4); }

    private int live() {
        if (random.nextInt(25) == 0) return odd();
        List<Integer> some = new ArrayList<>();
        for (PlainModel.Buf b : model.w.bufs()) if (b.where == 'L') some.add(b.address);
        return some.isEmpty() ? random.nextInt(32768) : some.get(random.nextInt(some.size()));
    }

    private int address() {
        List<PlainModel.Buf> all = model.w.bufs();
        int r = random.nextInt(10);
        if (r == 0 || all.isEmpty()) return random.nextInt(33000) - 100;
        if (r == 1) return odd();
        return all.get(random.nextInt(all.size())).address + (r == 2 ? 1 : 0);
    }

    private void makeCache() {
        int size = random.nextInt(12) == 0 ? odd() : bigness == 0 ? 8 * (25 + random.nextInt(26)) : 8 * (2 + random.nextInt(49));
        call("cache", upTo(6), size, random.nextInt(12) == 0 ? odd() : 8 * (1 + random.nextInt(8)));
    }

    // ---- acts

    private void act() {
        switch (random.nextInt(28)) {
            case 0: case 1: case 2: takes(); break;
            case 3: case 4: case 5: gives(); break;
            case 6: call("interval"); break;
            case 7: if (random.nextInt(2) == 0) call("drain", cacheNo(), processor()); break;
            case 8: if (random.nextInt(2) == 0) call("reap", cacheNo()); break;
            case 9: call("limit", cacheNo(), random.nextInt(3) == 0 ? odd() : random.nextInt(5)); break;
            case 10: call("write", live(), random.nextInt(2) == 0 ? random.nextInt() : random.nextInt(20)); break;
            case 11: call(random.nextBoolean() ? "hold" : "letGo", live()); break;
            case 12: call("trip", cacheNo(), processor(), 1 + upTo(40), upTo(3)); break;
            case 13: call("drawn", random.nextInt(), 1 + upTo(400), upTo(4)); break;
            case 14: int n = 1 + upTo(40); call("ahead", cacheNo(), processor(), n, random.nextInt(10) == 0 ? odd() : n > 0 ? random.nextInt(n) : 0); break;
            case 15: text(); break;
            case 16: call("dry", upTo(4)); call("dry", upTo(4)); break;
            case 17: call("tuned", upTo(2)); break;
            case 18: call("run"); call("why"); break;
            case 19: if (random.nextInt(6) == 0) call("image"); if (random.nextInt(10) == 0) call("back"); break;
            case 20: if (random.nextInt(10) == 0) makeCache(); break;
            case 21: binAct(); break;
            case 22: if (random.nextInt(3) == 0) binStory(); else binAct(); break;
            case 26: case 27: pump(); break;
            case 23: for (int i = 0; i < 4; i++) intervalRun(); break;
            default: look();
        }
        look();
    }

    private void intervalRun() {
        call("interval");
        if (random.nextInt(3) == 0) call("of", cacheNo(), 7);
    }

    private void takes() {
        int c = cacheNo(), p = processor();
        for (int n = random.nextInt(12); n >= 0; n--) call("take", c, p);
    }

    private void gives() {
        int p = processor();
        for (int n = random.nextInt(12); n >= 0; n--) call("give", live(), p);
    }

    /** BUFFERS go from one PROCESSOR to another through THE DEPOT, which then has EMPTY ones. */
    private void pump() {
        int c = cacheNo(), p = random.nextInt(4), q = random.nextInt(4), n = random.nextInt(24);
        List<Integer> got = new ArrayList<>();
        for (int i = 0; i < n; i++) got.add((int) call("take", c, p));
        for (int address : got) if (random.nextInt(9) > 0) call("give", address, q);
        if (random.nextInt(3) == 0) call("interval");
        for (int what = 6; what < 12; what++) call("of", c, what);
    }

    private void look() {
        switch (random.nextInt(14)) {
            case 0: call("word", address()); break;
            case 1: call("state", address()); break;
            case 2: call("owner", address()); break;
            case 3: if (random.nextInt(5) == 0) call("bytes", upTo(7)); break;
            case 4: call("page", upTo(random.nextBoolean() ? 32 : 4), upTo(5)); break;
            case 5: call("map", upTo(random.nextBoolean() ? 32 : 4), upTo(2)); break;
            case 6: case 7: case 8: call("of", cacheNo(), upTo(16)); break;
            case 9: call("tally", cacheNo()); break;
            case 10: call("magazine", cacheNo(), processor(), upTo(4)); break;
            case 11: call("lines", cacheNo(), upTo(2)); break;
            case 12: call("names", upTo(26)); break;
            default: call("count", upTo(8));
        }
    }

    private void binAct() {
        int b = upTo(4), i = upTo(10);
        switch (random.nextInt(8)) {
            case 0: call("bin", b, random.nextInt(4) == 0 ? odd() : random.nextInt(12)); break;
            case 1: case 2: for (int k = 0; k < 5; k++) call("lay", b, upTo(10), random.nextInt(8) == 0 ? -1 : live()); break;
            case 3: call("at", b, i); break;
            case 4: call("pour", b, i, random.nextInt(4) == 0 ? odd() : random.nextInt(6), processor()); break;
            default: call("shift", b, i, upTo(4), upTo(10), random.nextInt(6) == 0 ? odd() : random.nextInt(5));
        }
    }

    private void binStory() {
        int b = random.nextInt(4), n = 1 + random.nextInt(8);
        takes();
        call("bin", b, n);
        for (int i = 0; i < n; i++) call("lay", b, i, live());
        call("shift", b, random.nextInt(3), b, random.nextInt(3), random.nextInt(n));
        call("pour", b, random.nextInt(2), random.nextInt(12), processor());
        for (int i = 0; i < n; i++) call("at", b, i);
    }

    // ---- texts

    private void text() {
        if (random.nextInt(12) == 0) {
            String t = random.nextInt(200) + 50 + "(" + inner(0) + ");" + s(0);
            for (int i = 0; i < t.length() && i < 101; i++) call("feed", t.charAt(i));
        } else if (random.nextInt(30) == 0) {
            for (int i = 0; i < 103; i++) call("feed", "!;".charAt(i % 2));
        } else {
            String t = s(0);
            while (t.length() < 90 && random.nextInt(5) > 0) t += ";" + s(0);
            if (random.nextInt(4) == 0) t = spoiled(t);
            if (t.length() > 100) t = "9(" + s(5) + ";" + s(5) + ")";
            for (char letter : t.toCharArray()) call("feed", letter);
        }
        if (random.nextInt(10) == 0) call("feed", odd());
        call("count", 3);
        call("trace");
        for (int i = 0; i < 4; i++) call("dry", i);
        if (random.nextInt(3) == 0) for (int i = 0; i < 2; i++) call("tuned", i);
    }

    private String spoiled(String t) {
        StringBuilder b = new StringBuilder(t);
        String signs = "abz0123456789@=:~!;()? A{`/\u00e9";
        for (int n = 1 + random.nextInt(2); n > 0; n--) {
            int at = random.nextInt(b.length() + 1);
            int how = random.nextInt(4);
            if (how == 0 || at == b.length()) b.insert(at, signs.charAt(random.nextInt(signs.length())));
            else if (how == 1 && b.length() > 1) b.deleteCharAt(at);
            else if (how == 2) b.setLength(at);
            else b.setCharAt(at, signs.charAt(random.nextInt(signs.length())));
            if (b.length() == 0) return "";
        }
        return b.toString();
    }

    private char variable() { return (char) ('a' + random.nextInt(random.nextInt(8) == 0 ? 26 : 4)); }

    private int digit(int n) { return random.nextInt(20) == 0 ? random.nextInt(4) : random.nextInt(Math.max(1, n)); }

    private String s(int depth) {
        int caches = model.w.caches.size();
        int p = digit(bigness == 0 ? 1 : 4);
        switch (random.nextInt(depth > 5 ? 9 : 14)) {
            case 0: case 1: case 2: case 3: return variable() + "=" + digit(caches) + "@" + p;
            case 4: case 5: case 6: return "~" + variable() + "@" + p;
            case 7: return variable() + ":" + random.nextInt(random.nextBoolean() ? 3 : 1000);
            case 8: return "!";
            case 9: return "?" + digit(caches) + "(" + inner(depth) + ")";
            default: return (random.nextInt(20) == 0 ? "00" : "") + random.nextInt(random.nextInt(8) == 0 ? 100 : 6) + "(" + inner(depth) + ")";
        }
    }

    private String inner(int depth) {
        String t = s(depth + 1);
        while (random.nextInt(3) == 0) t += ";" + s(depth + 1);
        if (random.nextInt(2) == 0) {
            char v = variable();
            t = v + "=" + digit(model.w.caches.size()) + "@0;" + t + ";~" + v + "@0";
        }
        return t;
    }
}
