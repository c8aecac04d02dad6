import java.util.ArrayDeque;
import java.util.Deque;
import java.util.function.Supplier;

/**
 * Each sentence of the document that names an edge, one method a promise: the sentence stands ahead of what
 * looks at it. Promises has the ordinary calls. The answers due were worked out by hand from the document.
 */
public final class Edges extends Check {
    /** Numbers that are none of anything, whatever is asked for. */
    private static final int[] FAR = {LEAST, LEAST + 1, -1000, -2, MOST - 1, MOST};

    public static void main(String[] args) {
        runAll(Edges::p1, Edges::p2, Edges::p3, Edges::p4, Edges::p5, Edges::p6, Edges::p7, Edges::p8, Edges::p9, Edges::p10,
            Edges::p11, Edges::p12, Edges::p13, Edges::p14, Edges::p15, Edges::p16, Edges::p17, Edges::p18, Edges::p19, Edges::p20,
            Edges::p21, Edges::p22, Edges::p23, Edges::p24, Edges::p25, Edges::p26, Edges::p27, Edges::p28, Edges::p29, Edges::p30,
            Edges::p31, Edges::p32, Edges::p33, Edges::p34, Edges::p35, Edges::p36, Edges::p37, Edges::p38, Edges::p39);
    }

    /** VISITS of CACHE 0, one behind the other: BUFFER 32 is taken, given and drained each time. */
    private static void visits(MagazineDepot x, int n) {
        for (int i = 0; i < n; i++) {
            is(x.take(0, 0), 32);
            is(x.give(32, 0), 1);
            is(x.drain(0, 0), 1);
        }
        is(x.of(0, 6), n);
    }

    /** Two CACHES of 400 bytes; PAGES 0 and 2 are of CACHE 0, PAGE 1 of CACHE 1, its COLOURS 0 and 64. */
    private static MagazineDepot twoCaches() {
        MagazineDepot x = with(0, 400, 64);
        is(x.cache(4, 400, 64), 1);
        takes(x, 0, 0, 32, 432);
        takes(x, 1, 0, 1056, 1456);
        takes(x, 0, 0, 2144);
        return x;
    }

    /** One CACHE, ROUNDS as told: by VISITS beyond LIMIT, or by INTERVALS without any. */
    private static MagazineDepot rounds(int rounds) {
        MagazineDepot x = with(0, 16, 8);
        is(x.limit(0, 0), 4);
        for (int r = 2; r < rounds; r++) {
            visits(x, 1);
            is(x.interval(), 0);
        }
        for (int i = 0; rounds == 1 && i < 3; i++) is(x.interval(), 0);
        is(x.limit(0, 99), 0);
        is(x.of(0, 4), rounds);
        return x;
    }

    private static void p1() {
        // No CACHES, all PAGES free.
        MagazineDepot x = new MagazineDepot();
        for (int page = 0; page < 32; page++) {
            for (int what = 0; what < 5; what++) is(x.page(page, what), NOT);
            for (int what = 0; what < 2; what++) is(x.map(page, what), NOT);
        }
        for (int cache = -1; cache < 5; cache++) {
            is(x.of(cache, 0), BAD);
            is(x.limit(cache, 4), BAD);
            is(x.take(cache, 0), BAD);
            is(x.drain(cache, 0), BAD);
            is(x.reap(cache), BAD);
            is(x.magazine(cache, 0, 0), BAD);
            is(x.lines(cache, 0), BAD);
            is(x.ahead(cache, 0, 1, 0), BAD);
            is(x.trip(cache, 0, 1, 0), VOID);
            is(x.tally(cache), MagazineDepot.NO);
        }
        for (int at : new int[] {0, 32, 1023, 1024, 32767}) {
            is(x.owner(at), 0);
            is(x.state(at), NOT);
            is(x.word(at), MagazineDepot.NO);
            is(x.give(at, 0), BAD);
        }
        for (int what = 0; what < 4; what++) is(x.dry(what), VOID);
        is(x.tuned(0), STATE);
        is(x.tuned(1), STATE);
        for (int v = 0; v < 26; v++) is(x.names(v), NOT);
        for (int bin = 0; bin < 4; bin++) is(x.at(bin, 0), -11);
        is(x.interval(), 0);
        is(x.count(4), 1);
        ofOneObject();
        fiveHundredAndTwelve();
    }

    private static void ofOneObject() {
        // What one object has is not another's, be it made ahead or behind.
        MagazineDepot x = busy();
        MagazineDepot ahead = new MagazineDepot();
        is(tell(x, "a=0@0;~b@0"), 1);
        is(x.run(), 2);
        is(x.image(), 3);
        is(x.bin(0, 3), 1);
        is(x.lay(0, 0, 112), 1);
        is(x.feed('!'), 1);
        String before = told(x);
        MagazineDepot y = threeFull();
        is(y.interval(), 0);
        is(y.drain(0, 0), 4);
        for (MagazineDepot other : new MagazineDepot[] {ahead, y, new MagazineDepot()}) {
            is(other.run(), STATE);
            is(other.why(), 0);
            is(other.back(), STATE);
            is(other.at(0, 0), -11);
            is(other.names(0), NOT);
            is(other.count(3), 0);
            is(other.count(4), other == y ? 1 : 0);
            is(other.count(0), other == y ? 1 : 0);
            is(other.image(), other == y ? 1 : 0);
            is(other.bin(0, 1), 1);
            is(other.feed('x'), 1);
        }
        is(told(x), before);
        is(x.names(0), 176);
        is(x.at(0, 0), 112);
        is(x.why(), -11);
        is(x.dry(0), 2);
        is(x.back(), 3);
    }

    private static void fiveHundredAndTwelve() {
        // At most 512 calls: the last of them is answered as any other.
        MagazineDepot x = with(0, 16, 8);
        for (int call = 2; call < 512; call++) is(x.take(0, 3), 32 + (call - 2) / 62 * 1024 + (call - 2) % 62 * 16);
        is(x.count(6), 510);
        MagazineDepot y = with(0, 16, 8);
        is(tell(y, "99(a=0@0;b=0@1;~a@2;~b@3;!)"), 1);
        int visits = y.dry(2);
        int rounds = y.tuned(0);
        for (int call = 32; call < 512; call++) is(y.tuned(0), rounds);
        is(y.dry(2), visits);
    }

    private static void p2() {
        // KIND 0 .. 5; a SIZE (16 .. 400, a multiple of 8), a STEP (8 .. 64, a multiple of 8).
        for (int kind = -3; kind < 10; kind++) is(new MagazineDepot().cache(kind, 16, 8), kind >= 0 && kind <= 5 ? 0 : BAD);
        for (int size = -24; size < 500; size++) {
            is(new MagazineDepot().cache(0, size, 8), size == 16 || size > 16 && size <= 400 && (size & 7) == 0 ? 0 : BAD);
        }
        for (int step = -24; step < 200; step++) {
            is(new MagazineDepot().cache(0, 16, step), step == 8 || step > 8 && step <= 64 && (step & 7) == 0 ? 0 : BAD);
        }
        for (int far : FAR) {
            is(new MagazineDepot().cache(far, 16, 8), BAD);
            is(new MagazineDepot().cache(0, far, 8), BAD);
            is(new MagazineDepot().cache(0, 16, far), BAD);
        }
        is(new MagazineDepot().cache(0, LEAST + 16, LEAST + 8), BAD);
        // BAD, FULL: 4. The one named first.
        MagazineDepot x = new MagazineDepot();
        for (int i = 0; i < 4; i++) {
            is(x.cache(6, 16, 8), BAD);
            is(x.cache(i, 16 + 8 * i, 8), i);
        }
        is(x.cache(5, 400, 64), FULL);
        is(x.cache(-1, 16, 8), BAD);
        is(x.cache(0, 408, 8), BAD);
        is(x.cache(0, 16, 72), BAD);
        is(x.count(0), 4);
        is(x.of(3, 0), 3);
        is(x.of(3, 1), 40);
        // PER: 992 over SIZE, cut.
        int[][] pers = {{16, 62}, {24, 41}, {32, 31}, {40, 24}, {248, 4}, {256, 3}, {328, 3}, {336, 2}, {392, 2}, {400, 2}};
        for (int[] of : pers) is(with(0, of[0], 8).of(0, 3), of[1]);
        colours();
    }

    /** The COLOURS of SLABS that are made one behind the other, and the TAIL that each leaves. */
    private static void colours(int size, int step, int... due) {
        MagazineDepot x = with(0, size, step);
        int per = x.of(0, 3);
        for (int page = 0; page < due.length; page++) {
            is(x.of(0, 13), due[page]);
            for (int i = 0; i < per; i++) is(x.take(0, 0), page * 1024 + 32 + due[page] + i * size);
            is(x.page(page, 1), due[page]);
            is(x.page(page, 2), 992 - due[page] - per * size);
        }
    }

    private static void colours() {
        // STEP more than the one made ahead of it, if TAIL is 0 or more by that, else 0.
        colours(248, 8, 0, 0, 0);
        colours(16, 64, 0, 0);
        colours(24, 8, 0, 8, 0, 8);
        colours(24, 16, 0, 0, 0);
        colours(400, 64, 0, 64, 128, 192, 0, 64);
        colours(392, 56, 0, 56, 112, 168, 0, 56);
        colours(336, 40, 0, 40, 80, 120, 160, 200, 240, 280, 320, 0, 40);
        // SLABS that went count as made: the next one is not the CACHE's first, nor that of its COLOUR again.
        MagazineDepot x = with(0, 400, 64);
        takes(x, 0, 0, 32);
        gives(x, 0, 32);
        is(x.drain(0, 0), 1);
        is(x.reap(0), 1);
        is(x.of(0, 12), 0);
        is(x.of(0, 13), 64);
        takes(x, 0, 0, 96);
        is(x.page(0, 1), 64);
        is(x.page(0, 2), 128);
        // COLOURS are each CACHE's own.
        MagazineDepot y = twoCaches();
        is(y.page(1, 1), 0);
        is(y.page(2, 1), 64);
        is(y.of(0, 13), 128);
        is(y.of(1, 13), 64);
    }

    private static void p3() {
        MagazineDepot x = with(0, 16, 8);
        // LIMIT 0 .. 99, 4 at first; what it was.
        is(x.limit(0, 0), 4);
        is(x.limit(0, 99), 0);
        is(x.limit(0, 99), 99);
        for (int v : new int[] {-1, 100}) is(x.limit(0, v), BAD);
        for (int far : FAR) {
            is(x.limit(0, far), BAD);
            is(x.limit(far, 5), BAD);
        }
        for (int cache : new int[] {-1, 1, 2, 3, 4}) is(x.limit(cache, 5), BAD);
        is(x.of(0, 5), 99);
        is(x.cache(0, 16, 8), 1);
        is(x.limit(1, 7), 4);
        is(x.of(0, 5), 99);
        // VISITS more than LIMIT: as many are not more.
        for (int limit : new int[] {0, 1, 4, 98, 99}) {
            for (int more = 0; more < 2; more++) {
                MagazineDepot y = with(0, 16, 8);
                if (limit != 4) is(y.limit(0, limit), 4);
                visits(y, limit + more);
                is(y.interval(), 0);
                is(y.of(0, 4), 2 + more);
                is(y.of(0, 6), 0);
            }
        }
    }

    private static void p4() {
        // PREVIOUS, if there is one, is brought as EMPTY, LOADED (or none) becomes PREVIOUS.
        MagazineDepot x = threeFull();
        int visits = x.of(0, 6);
        takes(x, 0, 1, 112);
        is(x.of(0, 6), visits + 1);
        is(x.magazine(0, 1, 0), 1);
        is(x.magazine(0, 1, 2), NOT);
        is(x.of(0, 9), 0);
        takes(x, 0, 1, 96, 80);
        is(x.of(0, 6), visits + 2);
        is(x.magazine(0, 1, 2), 0);
        is(x.of(0, 9), 0);
        takes(x, 0, 1, 64, 48);
        is(x.of(0, 6), visits + 3);
        is(x.magazine(0, 1, 2), 0);
        is(x.of(0, 9), 1);
        is(x.of(0, 8), 0);
        is(x.count(1), 5);
        // Neither holds some, THE DEPOT has no FULL one: of a SLAB, no VISIT.
        takes(x, 0, 1, 32, 208);
        is(x.of(0, 6), visits + 3);
        is(x.magazine(0, 1, 0), 0);
        is(x.magazine(0, 1, 2), 0);
        // LOADED holds some, PREVIOUS too: no exchange. LOADED holds none, PREVIOUS some: exchanged, no VISIT.
        is(x.magazine(0, 0, 1), 176);
        takes(x, 0, 0, 176, 160);
        is(x.magazine(0, 0, 0), 0);
        is(x.magazine(0, 0, 2), 2);
        takes(x, 0, 0, 144);
        is(x.magazine(0, 0, 0), 1);
        is(x.magazine(0, 0, 2), 0);
        is(x.of(0, 6), visits + 3);
        madeAnew();
        ofTheFirstSlab();
        takeArguments();
    }

    private static void madeAnew() {
        // What is in a MAGAZINE stays made; what is FREE is made (WORD as MAKES tells).
        MagazineDepot x = with(0, 16, 8);
        takes(x, 0, 0, 32);
        is(x.write(32, 77), 1);
        is(x.give(32, 0), 1);
        takes(x, 0, 0, 32);
        is(x.word(32), 77);
        is(x.of(0, 14), 1);
        is(x.give(32, 0), 1);
        is(x.drain(0, 0), 1);
        takes(x, 0, 0, 32);
        is(x.word(32), 32);
        is(x.of(0, 14), 2);
    }

    private static void ofTheFirstSlab() {
        // A new SLAB is in the first free PAGE; the first SLAB of that CACHE is told by PAGES, not by age.
        MagazineDepot x = twoCaches();
        gives(x, 0, 32, 432);
        is(x.drain(0, 0), 2);
        is(x.reap(0), 1);
        takes(x, 1, 0, 96);
        is(x.page(0, 0), 1);
        gives(x, 0, 1056, 96);
        is(x.drain(1, 0), 2);
        takes(x, 1, 0, 96, 496, 1056);
        // One CACHE's FREE ones are not another's: CACHE 0 has one in PAGE 2.
        takes(x, 1, 0, 3232);
        takes(x, 0, 0, 2544);
    }

    private static void takeArguments() {
        // BAD; FULL: of several the one named first.
        MagazineDepot x = with(0, 400, 64);
        for (int i = 0; i < 64; i++) is(x.take(0, i & 3) < 0 ? 1 : 0, 0);
        for (int cache : new int[] {-1, 1, 4, LEAST, MOST}) is(x.take(cache, 0), BAD);
        for (int processor : new int[] {-1, 4, LEAST, MOST}) is(x.take(0, processor), BAD);
        for (int processor = 0; processor < 4; processor++) is(x.take(0, processor), FULL);
        is(x.of(0, 14), 64);
        is(x.count(6), 64);
        // PAGES 0 .. 31: bytes 0 .. 32767; the last BUFFER is that of PAGE 31.
        is(x.state(31 * 1024 + 32 + 192 + 400), 1);
        is(x.owner(32767), 4);
        // No free PAGE, but a FREE one in the last SLAB.
        is(x.give(31 * 1024 + 32 + 192, 3), 1);
        is(x.drain(0, 3), 1);
        is(x.take(0, 1), 31 * 1024 + 32 + 192);
        is(x.take(0, 1), FULL);
        // A FULL MAGAZINE of THE DEPOT is had without a free PAGE, too.
        gives(x, 0, 32, 432, 1120, 1520, 2208);
        is(x.of(0, 8), 1);
        takes(x, 0, 2, 432, 32);
        is(x.take(0, 2), FULL);
        is(x.magazine(0, 2, 0), 0);
        is(x.magazine(0, 2, 2), NOT);
    }

    private static void p5() {
        // BAD: no LIVE one begins there, PROCESSOR; STATE: it isn't FIT.
        MagazineDepot x = twoCaches();
        is(x.hold(1056), 1);
        gives(x, 0, 32);
        // HEAD, in a MAGAZINE, within one, TAIL, COLOUR, FREE, a free PAGE, no byte.
        int[] none = {0, 31, 32, 33, 440, 831, 832, 1023, 1024, 2080, 2143, 2145, 2544, 2944, 3104, 32736, 32767, -1, 32768, 65536 + 432};
        for (int address : none) is(x.give(address, 0), BAD);
        for (int far : FAR) is(x.give(far, 0), BAD);
        for (int processor : new int[] {-1, 4, LEAST, MOST}) {
            is(x.give(432, processor), BAD);
            is(x.give(1056, processor), BAD);
        }
        for (int processor = 0; processor < 4; processor++) is(x.give(1056, processor), STATE);
        is(x.state(1056), 1);
        is(x.of(1, 6), 0);
        // How many BUFFERS of its CACHE are in MAGAZINES then: not of all.
        is(x.give(1456, 3), 1);
        is(x.give(432, 3), 2);
        is(x.give(2144, 2), 3);
        is(x.letGo(1056), 1);
        is(x.give(1056, 3), 2);
        asFullAsRounds();
        twentyFourInAll();
        endsOfEachKind();
    }

    private static void asFullAsRounds() {
        // A MAGAZINE holds at most ROUNDS (1 .. 8).
        for (int rounds = 1; rounds <= 8; rounds++) {
            MagazineDepot x = rounds(rounds);
            int n = 2 * rounds + 1;
            for (int i = 0; i < n + 1; i++) is(x.take(0, 0), 32 + 16 * i);
            for (int i = 0; i < n; i++) {
                is(x.give(32 + 16 * i, 0), i + 1);
                is(x.of(0, 6), i / rounds + 1);
                is(x.magazine(0, 0, 0), i % rounds + 1);
                is(x.magazine(0, 0, 2), i < rounds ? NOT : rounds);
                is(x.of(0, 8), i < 2 * rounds ? 0 : 1);
            }
            is(x.count(1), 3);
        }
    }

    /** 24 MAGAZINES: 22 of CACHE 0 by PROCESSOR 0, 2 of CACHE 1 by PROCESSOR 1. LIVE: 736 to 832, and 1120 of CACHE 1. */
    private static MagazineDepot twentyFour() {
        MagazineDepot x = with(0, 16, 8);
        is(x.cache(0, 16, 8), 1);
        for (int i = 0; i < 51; i++) is(x.take(0, 0), 32 + 16 * i);
        for (int i = 0; i < 44; i++) is(x.give(32 + 16 * i, 0), i + 1);
        is(x.count(1), 22);
        for (int i = 0; i < 6; i++) is(x.take(1, 1), 1056 + 16 * i);
        for (int i = 0; i < 4; i++) is(x.give(1056 + 16 * i, 1), i + 1);
        is(x.count(1), 24);
        return x;
    }

    private static void twentyFourInAll() {
        // At most 24 MAGAZINES are MADE at a time, in all. Else (none EMPTY, 24 are MADE; no VISIT): the BUFFER ends.
        MagazineDepot x = twentyFour();
        is(x.of(1, 6), 2);
        is(x.give(1120, 1), 4);
        is(x.state(1120), 0);
        is(x.of(1, 6), 2);
        is(x.of(1, 15), 1);
        is(x.give(736, 0), 44);
        is(x.state(736), 0);
        is(x.give(752, 3), 44);
        is(x.magazine(0, 3, 0), NOT);
        is(x.of(0, 15), 2);
        is(x.of(0, 6), 22);
        is(x.of(0, 8), 20);
        // An EMPTY one of the CACHE serves though 24 are MADE; one of another CACHE does not.
        takes(x, 0, 2, 656, 640, 624, 608, 592);
        is(x.of(0, 9), 1);
        is(x.give(1136, 2), 4);
        is(x.state(1136), 0);
        is(x.of(0, 9), 1);
        is(x.of(0, 6), 25);
        is(x.give(768, 3), 40);
        is(x.of(0, 9), 0);
        is(x.of(0, 6), 26);
        is(x.magazine(0, 3, 1), 768);
        is(x.count(1), 24);
        // One is UNMADE: one can be MADE, not two.
        MagazineDepot y = twentyFour();
        is(y.drain(1, 1), 4);
        takes(y, 1, 1, 1056, 1072, 1088);
        is(y.give(1056, 2), 1);
        is(y.count(1), 23);
        is(y.give(736, 3), 45);
        is(y.count(1), 24);
        is(y.give(1072, 3), 1);
        is(y.state(1072), 0);
        is(y.give(1088, 2), 2);
    }

    private static void endsOfEachKind() {
        // The BUFFER ends: ENDS is added, it is FREE.
        int[][] due = {{0, 29, 13}, {1, 0, 0}, {2, 138, 10 + 1}, {3, 4416, 0 + 1}, {4, 30, 14}, {5, 30, 42}};
        for (int[] of : due) {
            MagazineDepot x = with(0, 16, 8);
            is(x.cache(of[0], 16, 8), 1);
            for (int i = 0; i < 48; i++) is(x.take(0, 0), 32 + 16 * i);
            for (int i = 0; i < 48; i++) is(x.give(32 + 16 * i, 0), i + 1);
            takes(x, 1, 0, 1056, 1072, 1088, 1104);
            if (of[0] != 2 && of[0] != 3) is(x.write(1104, of[1]), 1);
            is(x.word(1104), of[1]);
            is(x.give(1104, 0), 0);
            is(x.state(1104), 0);
            is(x.tally(1), of[2]);
            is(x.of(1, 15), 1);
        }
    }

    private static void p6() {
        // The WORD of a LIVE one. BAD: no LIVE one begins there.
        MagazineDepot x = twoCaches();
        gives(x, 0, 32);
        int[] none = {0, 31, 32, 33, 433, 831, 832, 1024, 2080, 2143, 2145, 2544, 3104, 32767, -1, 32768, 65536 + 432};
        for (int address : none) is(x.write(address, 5), BAD);
        for (int far : FAR) is(x.write(far, 5), BAD);
        for (int v : new int[] {LEAST, -1, 0, 1, MOST}) {
            is(x.write(432, v), 1);
            is(x.word(432), v);
        }
        is(x.word(32), 32);
        is(x.word(2144), 2144 & 255);
        is(x.word(1056), 1056 & 255);
    }

    private static void p7() {
        // The WORD of one that isn't FREE; NO: no such one begins there.
        MagazineDepot x = twoCaches();
        is(x.write(32, -1), 1);
        is(x.word(32), -1);
        gives(x, 0, 32);
        is(x.word(32), -1);
        int[] none = {0, 31, 33, 433, 831, 832, 1024, 2080, 2143, 2145, 2544, 3104, 32767, -1, 32768, 65536 + 432};
        for (int address : none) is(x.word(address), MagazineDepot.NO);
        for (int far : FAR) is(x.word(far), MagazineDepot.NO);
        // NO is a long's least: an int's least is a WORD.
        is(x.write(432, LEAST), 1);
        is(x.word(432), -2147483648L);
        // MAKES, of the BUFFER at the highest ADDRESS: 31 * 1024 + 32 + 192 + 400 = 32368.
        int[] due = {112, 0, 4046, 129472, 112, 224};
        for (int kind = 0; kind < 6; kind++) {
            MagazineDepot y = with(kind, 400, 64);
            for (int i = 0; i < 64; i++) is(y.take(0, 0) < 0 ? 1 : 0, 0);
            is(y.word(32368), due[kind]);
            is(y.give(32368, 0), 1);
        }
        // a & 255: below, at and above 256.
        MagazineDepot y = with(5, 16, 8);
        for (int i = 0; i < 16; i++) is(y.take(0, 0), 32 + 16 * i);
        is(y.word(240), 480);
        is(y.word(256), 0);
        is(y.word(272), 32);
    }

    private static void p8() {
        // The lowest bit of its WORD becomes 1: 1; 0: it was.
        int[][] due = {{0, 1, 1}, {1, 0, 1}, {-2, 1, -1}, {-1, 0, -1}, {LEAST, 1, LEAST + 1}, {MOST, 0, MOST}, {MOST - 1, 1, MOST}};
        for (int kind = 4; kind < 6; kind++) {
            MagazineDepot x = with(kind, 16, 8);
            takes(x, 0, 0, 32, 48);
            for (int[] of : due) {
                is(x.write(32, of[0]), 1);
                is(x.hold(32), of[1]);
                is(x.word(32), of[2]);
            }
            is(x.word(48), kind == 4 ? 48 : 96);
            lockAddresses(x, true);
        }
        lockKinds(true);
    }

    private static void lockAddresses(MagazineDepot x, boolean isHold) {
        // BAD: no LIVE one begins there.
        gives(x, 0, 48);
        for (int address : new int[] {0, 31, 33, 40, 48, 64, 1024, 1056, 32767, -1, 32768, 65536 + 32, LEAST, MOST}) {
            is(isHold ? x.hold(address) : x.letGo(address), BAD);
        }
    }

    private static void lockKinds(boolean isHold) {
        // STATE: another KIND. A held one's WORD stays, and one that is not LIVE is BAD, of whatever KIND.
        for (int kind = 0; kind < 4; kind++) {
            MagazineDepot x = with(kind, 16, 8);
            takes(x, 0, 0, 32, 48);
            long word = x.word(48);
            is(isHold ? x.hold(48) : x.letGo(48), STATE);
            is(x.word(48), word);
            is(isHold ? x.hold(64) : x.letGo(64), BAD);
            is(isHold ? x.hold(49) : x.letGo(49), BAD);
        }
    }

    private static void p9() {
        // That bit becomes 0: 1; 0: it was.
        int[][] due = {{0, 0, 0}, {1, 1, 0}, {-1, 1, -2}, {-2, 0, -2}, {LEAST, 0, LEAST}, {LEAST + 1, 1, LEAST}, {MOST, 1, MOST - 1}};
        for (int kind = 4; kind < 6; kind++) {
            MagazineDepot x = with(kind, 16, 8);
            takes(x, 0, 0, 32, 48);
            for (int[] of : due) {
                is(x.write(32, of[0]), 1);
                is(x.letGo(32), of[1]);
                is(x.word(32), of[2]);
            }
            is(x.write(32, 1), 1);
            lockAddresses(x, false);
            is(x.word(32), 1);
        }
        lockKinds(false);
    }

    private static void p10() {
        // Without CACHES.
        MagazineDepot none = new MagazineDepot();
        for (int i = 1; i < 5; i++) {
            is(none.interval(), 0);
            is(none.count(4), i);
        }
        // LEAST FULL at first 0: none goes, however many there are; then as many as there were at least.
        MagazineDepot x = threeFull();
        is(x.interval(), 0);
        is(x.of(0, 8), 3);
        is(x.interval(), 3);
        is(x.of(0, 8), 0);
        is(x.of(0, 10), 0);
        is(x.magazine(0, 0, 0), 2);
        is(x.magazine(0, 0, 2), 2);
        is(x.of(0, 15), 6);
        // LEAST FULL is the fewest, though more are brought again.
        MagazineDepot y = threeFull();
        is(y.interval(), 0);
        takes(y, 0, 1, 112);
        is(y.of(0, 10), 2);
        takes(y, 0, 2, 80);
        is(y.of(0, 10), 1);
        is(y.give(192, 0), 9);
        is(y.of(0, 8), 2);
        is(y.of(0, 10), 1);
        is(y.interval(), 1);
        is(y.state(32), 0);
        is(y.state(48), 0);
        is(y.state(128), 2);
        is(y.of(0, 8), 1);
        is(y.of(0, 10), 1);
        leastEmpty();
        quiet();
        roundsAndTheRest();
    }

    private static void leastEmpty() {
        // LEAST EMPTY likewise: one of two EMPTY ones is fetched, so that one is too many.
        MagazineDepot x = with(0, 16, 8);
        is(x.limit(0, 99), 4);
        for (int i = 0; i < 14; i++) is(x.take(0, 0), 32 + 16 * i);
        for (int i = 0; i < 14; i++) is(x.give(32 + 16 * i, 0), i + 1);
        is(x.of(0, 8), 5);
        takes(x, 0, 1, 176, 160, 144, 128, 112, 96, 80, 64);
        is(x.of(0, 9), 2);
        is(x.of(0, 8), 1);
        is(x.of(0, 11), 0);
        is(x.interval(), 0);
        is(x.of(0, 10), 1);
        is(x.of(0, 11), 2);
        is(x.give(64, 2), 7);
        is(x.of(0, 9), 1);
        is(x.of(0, 11), 1);
        is(x.of(0, 10), 1);
        takes(x, 0, 1, 48, 32);
        is(x.of(0, 8), 0);
        is(x.of(0, 10), 0);
        is(x.of(0, 11), 1);
        is(x.of(0, 9), 2);
        is(x.interval(), 1);
        is(x.of(0, 9), 1);
        is(x.of(0, 11), 1);
        is(x.of(0, 15), 0);
        // Whatever there is of FULL ones: here none, and three EMPTY ones.
        MagazineDepot z = with(0, 16, 8);
        is(z.limit(0, 99), 4);
        for (int i = 0; i < 14; i++) is(z.take(0, 0), 32 + 16 * i);
        for (int i = 0; i < 14; i++) is(z.give(32 + 16 * i, 0), i + 1);
        takes(z, 0, 1, 176, 160, 144, 128, 112, 96, 80, 64, 48, 32);
        is(z.interval(), 0);
        is(z.of(0, 8), 0);
        is(z.of(0, 11), 3);
        is(z.give(32, 2), 5);
        is(z.of(0, 11), 2);
        is(z.of(0, 10), 0);
        is(z.interval(), 2);
        is(z.of(0, 9), 0);
        // As many FULL as LEAST FULL, as many EMPTY as LEAST EMPTY, at one INTERVAL's end.
        MagazineDepot y = with(0, 16, 8);
        is(y.limit(0, 99), 4);
        for (int i = 0; i < 14; i++) is(y.take(0, 0), 32 + 16 * i);
        for (int i = 0; i < 14; i++) is(y.give(32 + 16 * i, 0), i + 1);
        takes(y, 0, 1, 176, 160, 144, 128, 112);
        is(y.of(0, 8), 2);
        is(y.of(0, 9), 1);
        is(y.interval(), 0);
        is(y.of(0, 10), 2);
        is(y.of(0, 11), 1);
        is(y.interval(), 3);
        is(y.of(0, 8), 0);
        is(y.of(0, 9), 0);
        is(y.of(0, 15), 4);
        is(y.count(1), 4);
    }

    private static void quiet() {
        // QUIET is one more if VISITS are 0, else 0; at QUIET 3 it is 0, and ROUNDS one less.
        MagazineDepot x = with(0, 16, 8);
        for (int i = 1; i < 3; i++) {
            is(x.interval(), 0);
            is(x.of(0, 7), i);
        }
        visits(x, 1);
        is(x.interval(), 0);
        is(x.of(0, 7), 0);
        for (int i = 1; i < 3; i++) {
            is(x.interval(), 0);
            is(x.of(0, 7), i);
        }
        is(x.of(0, 4), 2);
        is(x.interval(), 0);
        is(x.of(0, 7), 0);
        is(x.of(0, 4), 1);
        // All likewise EMPTIED and UNMADE: those of THE DEPOT and of each PROCESSOR.
        MagazineDepot y = threeFull();
        takes(y, 0, 1, 112);
        is(y.interval(), 0);
        takes(y, 0, 2, 80);
        is(y.of(0, 6), 1);
        gives(y, 2, 80);
        is(y.interval(), 1);
        is(y.interval(), 0);
        is(y.interval(), 0);
        is(y.of(0, 7), 2);
        is(y.count(7), 7);
        is(y.interval(), 4);
        is(y.of(0, 4), 1);
        is(y.count(1), 0);
        is(y.count(7), 0);
        for (int processor = 0; processor < 4; processor++) is(y.magazine(0, processor, 0), NOT);
        // ROUNDS 1: QUIET 3 leaves it, and the MAGAZINES.
        MagazineDepot z = rounds(1);
        takes(z, 0, 0, 32, 48);
        gives(z, 0, 32, 48);
        is(z.interval(), 0);
        for (int i = 1; i < 7; i++) {
            is(z.interval(), 0);
            is(z.of(0, 7), i % 3);
            is(z.of(0, 4), 1);
            is(z.count(1), 2);
        }
    }

    private static void roundsAndTheRest() {
        // How many MAGAZINES are UNMADE by it: those that are too many, then all the others.
        MagazineDepot x = threeFull();
        is(x.interval(), 0);
        is(x.limit(0, 0), 99);
        takes(x, 0, 1, 112);
        is(x.of(0, 10), 2);
        is(x.interval(), 5);
        is(x.of(0, 4), 3);
        is(x.count(1), 0);
        is(x.of(0, 15), 9);
        for (int what = 8; what < 12; what++) is(x.of(0, what), 0);
        is(x.of(0, 6), 0);
        // LIMIT, ROUNDS and QUIET are each CACHE's own: of two, one grows, one is quiet.
        MagazineDepot y = twoCaches();
        is(y.limit(0, 0), 4);
        gives(y, 0, 432);
        is(y.interval(), 1);
        is(y.of(0, 4), 3);
        is(y.of(1, 4), 2);
        is(y.of(0, 7), 0);
        is(y.of(1, 7), 1);
        // Beyond LIMIT at ROUNDS 8: neither more ROUNDS nor UNMADE; QUIET is 0 as VISITS are not.
        MagazineDepot z = rounds(8);
        is(z.interval(), 0);
        is(z.of(0, 7), 1);
        is(z.limit(0, 0), 99);
        takes(z, 0, 0, 32);
        gives(z, 0, 32);
        is(z.interval(), 0);
        is(z.of(0, 4), 8);
        is(z.of(0, 7), 0);
        is(z.count(1), 1);
        is(z.state(32), 2);
        // ROUNDS 7 to 8 is the last step.
        MagazineDepot seven = rounds(7);
        is(seven.limit(0, 0), 99);
        takes(seven, 0, 0, 32);
        gives(seven, 0, 32);
        is(seven.interval(), 1);
        is(seven.of(0, 4), 8);
    }

    private static void p11() {
        // LOADED and PREVIOUS are EMPTIED, UNMADE: how many BUFFERS end. None there: 0.
        MagazineDepot x = threeFull();
        for (int processor = 1; processor < 4; processor++) is(x.drain(0, processor), 0);
        is(x.count(1), 5);
        // Those that hold none are UNMADE all the same.
        takes(x, 0, 0, 176, 160, 144, 128);
        is(x.drain(0, 0), 0);
        is(x.count(1), 3);
        is(x.magazine(0, 0, 0), NOT);
        is(x.magazine(0, 0, 2), NOT);
        is(x.of(0, 15), 0);
        // LOADED alone; PREVIOUS alone holds some.
        takes(x, 0, 3, 112);
        is(x.drain(0, 3), 1);
        takes(x, 0, 3, 80, 64, 48);
        is(x.magazine(0, 3, 0), 1);
        is(x.magazine(0, 3, 2), 0);
        is(x.drain(0, 3), 1);
        is(x.of(0, 15), 2);
        // What is with another PROCESSOR, of another CACHE or at THE DEPOT stays.
        MagazineDepot y = twoCaches();
        gives(y, 3, 32, 1056);
        gives(y, 2, 432);
        is(y.drain(0, 3), 1);
        is(y.magazine(1, 3, 0), 1);
        is(y.magazine(0, 2, 0), 1);
        is(y.drain(1, 2), 0);
        is(y.drain(1, 3), 1);
        is(y.tally(1), 1056 & 15);
        // So do LEAST FULL and LEAST EMPTY, VISITS and QUIET: nothing came to THE DEPOT or went.
        MagazineDepot z = busy();
        takes(z, 0, 1, 32);
        is(z.give(192, 2), 5);
        is(z.interval(), 0);
        gives(z, 0, 112, 96, 80, 64);
        is(z.interval(), 0);
        is(z.of(0, 10), 2);
        is(z.drain(0, 0), 4);
        is(z.of(0, 10), 2);
        is(z.of(0, 11), 0);
        is(z.of(2, 7), 0);
        is(z.of(1, 7), 2);
        // Two FULL ones, and the one of CACHE 1, whose QUIET is 3 by that.
        is(z.interval(), 2 + 1);
        asAtFirst();
        for (int cache : new int[] {-1, 2, 3, 4, LEAST, MOST}) is(y.drain(cache, 2), BAD);
        for (int processor : new int[] {-1, 4, LEAST, MOST}) is(y.drain(0, processor), BAD);
        is(y.magazine(0, 2, 0), 1);
    }

    private static void asAtFirst() {
        // None is there then, as at first: none is brought by the VISITS that follow but one that became PREVIOUS since.
        for (int how = 0; how < 3; how++) {
            MagazineDepot x = with(0, 16, 8);
            for (int i = 0; i < 9; i++) is(x.take(0, 0), 32 + 16 * i);
            if (how > 0) {
                gives(x, 0, 32, 48, 64);
                is(how == 1 ? x.drain(0, 0) : x.limit(0, 1), how == 1 ? 3 : 4);
                is(x.interval(), how == 1 ? 0 : 2);
                is(x.limit(0, 99), how == 1 ? 4 : 1);
            }
            int rounds = x.of(0, 4);
            is(rounds, how == 2 ? 3 : 2);
            for (int i = 0; i < 6; i++) {
                is(x.give(80 + 16 * i, 0), i + 1);
                is(x.of(0, 6), i / rounds + 1);
                is(x.count(1), i / rounds + 1);
                is(x.of(0, 8), i < 2 * rounds ? 0 : 1);
                is(x.magazine(0, 0, 2), i < rounds ? NOT : rounds);
            }
        }
    }

    private static void p12() {
        // PAGES of SLABS of a CACHE all of whose BUFFERS are FREE: one LIVE, or one in a MAGAZINE, is enough to stay.
        MagazineDepot x = twoCaches();
        is(x.reap(0), 0);
        gives(x, 0, 32, 432);
        is(x.reap(0), 0);
        is(x.drain(0, 0), 2);
        gives(x, 0, 1056, 1456);
        is(x.drain(1, 0), 2);
        for (int cache : new int[] {-1, 2, 3, 4, LEAST, MOST}) is(x.reap(cache), BAD);
        is(x.count(2), 29);
        // Of that CACHE alone.
        is(x.reap(0), 1);
        is(x.page(0, 0), NOT);
        is(x.page(1, 0), 1);
        is(x.page(2, 0), 0);
        is(x.reap(0), 0);
        is(x.reap(1), 1);
        is(x.count(2), 31);
        // All 32, the last PAGE too; what was there is no more.
        MagazineDepot y = with(0, 400, 64);
        for (int i = 0; i < 64; i++) is(y.take(0, 0) < 0 ? 1 : 0, 0);
        for (int page = 0; page < 32; page++) {
            int at = page * 1024 + 32 + new int[] {0, 64, 128, 192}[page % 4];
            gives(y, 0, at, at + 400);
            is(y.drain(0, 0), 2);
        }
        is(y.reap(0), 32);
        is(y.count(2), 32);
        is(y.bytes(0), 32768);
        is(y.state(32), NOT);
        is(y.word(32), MagazineDepot.NO);
        is(y.page(31, 0), NOT);
        is(y.of(0, 12), 0);
        is(y.of(0, 15), 64);
        takes(y, 0, 0, 32, 432, 1120);
    }

    private static void p13() {
        // BAD: no byte; NOT: no BUFFER of a SLAB begins there.
        MagazineDepot x = twoCaches();
        gives(x, 0, 432);
        int[][] due = {{32, 1}, {432, 2}, {2144, 1}, {2544, 0}, {0, NOT}, {31, NOT}, {33, NOT}, {431, NOT}, {433, NOT}, {831, NOT},
            {832, NOT}, {1023, NOT}, {1024, NOT}, {2080, NOT}, {2143, NOT}, {2944, NOT}, {3104, NOT}, {32767, NOT}, {-1, BAD}, {32768, BAD}};
        for (int[] of : due) is(x.state(of[0]), of[1]);
        for (int far : FAR) is(x.state(far), BAD);
        // HEAD and COLOUR begin no BUFFER, though they are a multiple of SIZE ahead of one; nor does TAIL behind the last.
        MagazineDepot y = with(0, 16, 8);
        for (int i = 0; i < 63; i++) is(y.take(0, 0), i / 62 * 1024 + 32 + i % 62 * 16);
        for (int at : new int[] {0, 16, 1024, 1040, 2032 + 16, 2032 + 32}) {
            is(y.state(at), NOT);
            is(y.word(at), MagazineDepot.NO);
            is(y.write(at, 1), BAD);
            is(y.give(at, 0), BAD);
        }
        is(y.state(1008), 1);
        is(y.state(2032), 0);
        MagazineDepot z = with(0, 24, 8);
        for (int i = 0; i < 42; i++) is(z.take(0, 0), i / 41 * 1032 + 32 + i % 41 * 24);
        for (int at : new int[] {8, 1016, 1024, 1032, 1040, 1048, 1056}) is(z.state(at), NOT);
        is(z.state(992), 1);
        is(z.state(1064), 1);
        is(z.state(1088), 0);
        is(z.state(2024), 0);
        is(z.state(2048), NOT);
    }

    private static void p14() {
        // Each byte is of one OWNER: the first and the last of each.
        MagazineDepot x = twoCaches();
        gives(x, 0, 432);
        int[][] due = {{0, 1}, {31, 1}, {32, 4}, {431, 4}, {432, 5}, {831, 5}, {832, 3}, {1023, 3}, {1024, 1}, {1055, 1}, {1056, 4},
            {1855, 4}, {1856, 3}, {2047, 3}, {2048, 1}, {2079, 1}, {2080, 2}, {2143, 2}, {2144, 4}, {2543, 4}, {2544, 6}, {2943, 6},
            {2944, 3}, {3071, 3}, {3072, 0}, {4095, 0}, {32767, 0}, {-1, BAD}, {32768, BAD}};
        for (int[] of : due) is(x.owner(of[0]), of[1]);
        for (int far : FAR) is(x.owner(far), BAD);
        // Without TAIL, without COLOUR: 62 BUFFERS of 16 fill the PAGE.
        MagazineDepot y = with(0, 16, 8);
        takes(y, 0, 0, 32);
        is(y.owner(31), 1);
        is(y.owner(47), 4);
        is(y.owner(48), 6);
        is(y.owner(1023), 6);
        is(y.owner(1024), 0);
    }

    private static void p15() {
        // OWNERS 0 .. 6: each byte is of one.
        MagazineDepot x = twoCaches();
        gives(x, 0, 432);
        int[] due = {29 * 1024, 3 * 32, 64, 192 + 192 + 128, 4 * 400, 400, 400};
        int all = 0;
        for (int owner = 0; owner < 7; owner++) {
            is(x.bytes(owner), due[owner]);
            all += due[owner];
        }
        is(all, 32768);
        for (int owner : new int[] {-1, 7, 8, 9, 31, 100}) is(x.bytes(owner), BAD);
        for (int far : FAR) is(x.bytes(far), BAD);
        // The last PAGE counts.
        MagazineDepot y = with(0, 400, 64);
        for (int i = 0; i < 63; i++) is(y.take(0, 0) < 0 ? 1 : 0, 0);
        is(y.bytes(0), 0);
        is(y.bytes(1), 1024);
        is(y.bytes(2), 8 * (64 + 128 + 192));
        is(y.bytes(3), 8 * (192 + 128 + 64));
        is(y.bytes(4), 63 * 400);
        is(y.bytes(5), 0);
        is(y.bytes(6), 400);
    }

    private static void p16() {
        // PAGES 0 .. 31, what 0 .. 4. BAD; NOT: it is free. The one named first.
        MagazineDepot x = twoCaches();
        gives(x, 0, 432);
        int[][] due = {{0, 0, 192, 0, NOT}, {1, 0, 192, 0, NOT}, {0, 64, 128, 1, 2544}};
        for (int page = 0; page < 3; page++) for (int what = 0; what < 5; what++) is(x.page(page, what), due[page][what]);
        for (int page : new int[] {3, 31}) {
            for (int what = 0; what < 5; what++) is(x.page(page, what), NOT);
            for (int what : new int[] {-1, 5, 6, LEAST, MOST}) is(x.page(page, what), BAD);
        }
        for (int what : new int[] {-1, 5, 6, LEAST, MOST}) is(x.page(0, what), BAD);
        for (int page : new int[] {-1, 32, 33, 64, LEAST, MOST}) is(x.page(page, 0), BAD);
        // The first FREE one is that of the least ADDRESS, whatever was given first.
        MagazineDepot y = with(0, 16, 8);
        for (int i = 0; i < 62; i++) is(y.take(0, 0), 32 + 16 * i);
        is(y.page(0, 3), 0);
        is(y.page(0, 4), NOT);
        gives(y, 0, 1008);
        is(y.drain(0, 0), 1);
        is(y.page(0, 4), 1008);
        gives(y, 0, 80, 64);
        is(y.page(0, 3), 1);
        is(y.drain(0, 0), 2);
        is(y.page(0, 3), 3);
        is(y.page(0, 4), 64);
        // The last PAGE.
        MagazineDepot z = with(0, 400, 64);
        for (int i = 0; i < 63; i++) is(z.take(0, 0) < 0 ? 1 : 0, 0);
        int[] last = {0, 192, 0, 1, 32368};
        for (int what = 0; what < 5; what++) is(z.page(31, what), last[what]);
    }

    private static void p17() {
        // Counted from its first: bit 0 to bit PER less 1.
        MagazineDepot x = with(0, 16, 8);
        takes(x, 0, 0, 32);
        is(x.map(0, 0), (1L << 62) - 2);
        is(x.map(0, 1), 1);
        for (int i = 1; i < 62; i++) is(x.take(0, 0), 32 + 16 * i);
        is(x.map(0, 0), 0);
        is(x.map(0, 1), (1L << 62) - 1);
        gives(x, 0, 1008, 992);
        is(x.map(0, 0), 0);
        is(x.map(0, 1), (1L << 60) - 1);
        is(x.drain(0, 0), 2);
        is(x.map(0, 0), 3L << 60);
        is(x.map(0, 1), (1L << 60) - 1);
        // BAD; NOT: it is free. The one named first.
        for (int page : new int[] {1, 31}) {
            for (int what = 0; what < 2; what++) is(x.map(page, what), NOT);
            for (int what : new int[] {-1, 2, 3, LEAST, MOST}) is(x.map(page, what), BAD);
        }
        for (int what : new int[] {-1, 2, 3, LEAST, MOST}) is(x.map(0, what), BAD);
        for (int page : new int[] {-1, 32, 33, 64, LEAST, MOST}) is(x.map(page, 0), BAD);
        // The last PAGE; a COLOUR does not count.
        MagazineDepot y = with(0, 400, 64);
        for (int i = 0; i < 63; i++) is(y.take(0, 0) < 0 ? 1 : 0, 0);
        is(y.map(31, 0), 2);
        is(y.map(31, 1), 1);
        is(y.map(1, 1), 3);
    }

    private static void p18() {
        // what 0 .. 15.
        MagazineDepot x = twoCaches();
        int[][] due = {{0, 400, 64, 2, 2, 4, 0, 0, 0, 0, 0, 0, 2, 128, 3, 0}, {4, 400, 64, 2, 2, 4, 0, 0, 0, 0, 0, 0, 1, 64, 2, 0}};
        for (int cache = 0; cache < 2; cache++) for (int what = 0; what < 16; what++) is(x.of(cache, what), due[cache][what]);
        for (int what : new int[] {-1, 16, 17, LEAST, MOST}) is(x.of(0, what), BAD);
        for (int cache : new int[] {-1, 2, 3, 4, LEAST, MOST}) for (int what : new int[] {0, 8, 12, 15}) is(x.of(cache, what), BAD);
        // SLABS of that CACHE, with others between them; a new CACHE has none, of the fourth as of the first.
        is(x.cache(5, 24, 16), 2);
        is(x.cache(3, 16, 8), 3);
        int[] fresh = {3, 16, 8, 62, 2, 4, 0, 0, 0, 0, 0, 0, 0, 0, 0, 0};
        for (int what = 0; what < 16; what++) is(x.of(3, what), fresh[what]);
        is(x.of(4, 0), BAD);
        // BUFFERS that were made: not those taken of a MAGAZINE; that ended: not those given to one.
        gives(x, 0, 32);
        takes(x, 0, 0, 32);
        is(x.of(0, 14), 3);
        is(x.of(0, 15), 0);
        gives(x, 0, 32);
        is(x.drain(0, 0), 1);
        is(x.of(0, 15), 1);
        takes(x, 0, 0, 32);
        is(x.of(0, 14), 4);
    }

    private static void p19() {
        // NO: no such one.
        MagazineDepot x = twoCaches();
        for (int cache : new int[] {-1, 2, 3, 4}) is(x.tally(cache), MagazineDepot.NO);
        for (int far : FAR) is(x.tally(far), MagazineDepot.NO);
        is(x.tally(0), 0);
        // w & 15 of the WORD it ends with: a WORD below 0, the greatest, the least.
        int[][] due = {{-1, 15}, {-16, 15}, {MOST, 30}, {LEAST, 30}, {16, 30}, {15, 45}};
        for (int[] of : due) {
            is(x.write(32, of[0]), 1);
            gives(x, 0, 32);
            is(x.drain(0, 0), 1);
            is(x.tally(0), of[1]);
            takes(x, 0, 0, 32);
        }
        is(x.tally(1), 0);
        // COUNT: of what LOCK, which has none, takes from PLAIN; RING: of what STAMP adds to.
        int[][] kinds = {{5, 0x7ffffffe, 42}, {4, -2, 14}, {3, 128, 1}, {2, 4, 5}, {1, 0, 0}};
        for (int[] of : kinds) {
            MagazineDepot y = with(of[0], 16, 8);
            takes(y, 0, 0, 32);
            is(y.write(32, of[1]), 1);
            gives(y, 0, 32);
            is(y.drain(0, 0), 1);
            is(y.tally(0), of[2]);
        }
    }

    private static void p20() {
        // LOADED, PREVIOUS: how many it holds, its latest's ADDRESS (NOT: it holds none). BAD; NOT: there is none.
        MagazineDepot x = twoCaches();
        gives(x, 3, 432, 32, 2144);
        int[] due = {1, 2144, 2, 32};
        for (int what = 0; what < 4; what++) is(x.magazine(0, 3, what), due[what]);
        for (int what = 0; what < 4; what++) {
            is(x.magazine(0, 2, what), NOT);
            is(x.magazine(1, 3, what), NOT);
        }
        // BAD is named ahead of NOT.
        for (int what : new int[] {-1, 4, 5, LEAST, MOST}) {
            is(x.magazine(0, 3, what), BAD);
            is(x.magazine(0, 2, what), BAD);
        }
        for (int processor : new int[] {-1, 4, 5, LEAST, MOST}) is(x.magazine(0, processor, 0), BAD);
        for (int cache : new int[] {-1, 2, 3, 4, LEAST, MOST}) is(x.magazine(cache, 3, 0), BAD);
        // One that holds none is there; LOADED is there, PREVIOUS is not.
        takes(x, 0, 3, 2144, 32, 432);
        int[] empty = {0, NOT, 0, NOT};
        for (int what = 0; what < 4; what++) is(x.magazine(0, 3, what), empty[what]);
        is(x.give(32, 1), 1);
        int[] one = {1, 32, NOT, NOT};
        for (int what = 0; what < 4; what++) is(x.magazine(0, 1, what), one[what]);
    }

    private static void p21() {
        // SPREAD: how many LINES have a LIVE one of a CACHE; PAIRS: how many pairs begin on the same LINE.
        MagazineDepot x = with(0, 32, 8);
        is(x.cache(0, 16, 8), 1);
        // BUFFER i of 32 bytes begins on LINE (1 + i) % 16.
        for (int i = 0; i < 31; i++) {
            is(x.take(0, 0), 32 + 32 * i);
            is(x.lines(0, 0), Math.min(16, i + 1));
            is(x.lines(0, 1), Math.max(0, i - 15));
        }
        // Another CACHE's do not count, be they ahead or behind.
        is(x.lines(1, 0), 0);
        is(x.lines(1, 1), 0);
        takes(x, 1, 0, 1056, 1072);
        is(x.lines(1, 0), 1);
        is(x.lines(1, 1), 1);
        is(x.lines(0, 0), 16);
        is(x.lines(0, 1), 15);
        // Neither do those in MAGAZINES, nor FREE ones.
        gives(x, 0, 32, 544);
        is(x.lines(0, 0), 15);
        is(x.lines(0, 1), 14);
        is(x.drain(0, 0), 2);
        is(x.lines(0, 0), 15);
        is(x.lines(0, 1), 14);
        // Three on one LINE are three pairs: PAGE 2 is of CACHE 0, COLOUR 0 again as TAIL is 0.
        takes(x, 0, 0, 32, 544, 2080);
        is(x.lines(0, 0), 16);
        is(x.lines(0, 1), 17);
        for (int what : new int[] {-1, 2, 3, LEAST, MOST}) is(x.lines(0, what), BAD);
        for (int cache : new int[] {-1, 2, 3, 4, LEAST, MOST}) is(x.lines(cache, 0), BAD);
    }

    private static void p22() {
        // n (1 .. 40); k: 0 .. n less 1; a PROCESSOR of a CACHE.
        MagazineDepot x = twoCaches();
        is(x.ahead(0, 0, 1, 0), 2544);
        is(x.ahead(0, 3, 40, 0), 2544);
        is(x.ahead(0, 0, 40, 39), x.ahead(0, 3, 40, 39));
        is(x.ahead(1, 0, 2, 1), 3168 + 400);
        for (int n : new int[] {-1, 0, 41, 42, LEAST, MOST}) is(x.ahead(0, 0, n, 0), BAD);
        for (int n : new int[] {1, 2, 40}) {
            for (int k : new int[] {-1, n, n + 1, 41, LEAST, MOST}) is(x.ahead(0, 0, n, k), BAD);
        }
        for (int processor : new int[] {-1, 4, 5, LEAST, MOST}) is(x.ahead(0, processor, 1, 0), BAD);
        for (int cache : new int[] {-1, 2, 3, 4, LEAST, MOST}) is(x.ahead(cache, 0, 1, 0), BAD);
        // As TAKES in deed would have it: of LOADED, PREVIOUS, THE DEPOT, SLABS.
        MagazineDepot y = threeFull();
        for (int k = 0; k < 16; k++) {
            int due = y.ahead(0, 0, 40, k);
            is(y.ahead(0, 0, k + 1, k), due);
            is(k < 10 ? new int[] {176, 160, 144, 128, 112, 96, 80, 64, 48, 32}[k] : 208 + 16 * (k - 10), due);
        }
        MagazineDepot z = threeFull();
        for (int k = 0; k < 16; k++) is(z.take(0, 0), y.ahead(0, 0, 16, k));
        // NOT: FULL by then. BAD is named first.
        MagazineDepot full = with(0, 400, 64);
        for (int i = 0; i < 63; i++) is(full.take(0, 0) < 0 ? 1 : 0, 0);
        is(full.ahead(0, 1, 2, 0), 32368);
        is(full.ahead(0, 1, 2, 1), NOT);
        is(full.ahead(0, 1, 2, 2), BAD);
        takes(full, 0, 0, 32368);
        is(full.ahead(0, 0, 1, 0), NOT);
        is(full.ahead(0, 0, 40, 39), NOT);
        is(full.ahead(0, 0, 41, 39), BAD);
    }

    /** What TAKES and GIVES in deed come to: VISITS, how many were taken, MAGAZINES MADE more. */
    private static int[] tripInDeed(MagazineDepot x, int processor, int n) {
        int visits = x.of(0, 6);
        int made = x.count(1);
        Deque<Integer> taken = new ArrayDeque<>();
        for (int i = 0; i < n; i++) {
            int address = x.take(0, processor);
            if (address >= 0) taken.push(address);
        }
        int many = taken.size();
        while (!taken.isEmpty()) is(x.give(taken.pop(), processor) < 0 ? 1 : 0, 0);
        return new int[] {x.of(0, 6) - visits, many, x.count(1) - made};
    }

    private static void p23() {
        // n (1 .. 40), what 0 .. 2. VOID: BAD.
        MagazineDepot x = twoCaches();
        is(x.trip(0, 0, 1, 1), 1);
        is(x.trip(0, 0, 40, 1), 40);
        is(x.trip(1, 3, 40, 1), 40);
        for (int n : new int[] {-1, 0, 41, 42, LEAST, MOST}) is(x.trip(0, 0, n, 1), VOID);
        for (int what : new int[] {-1, 3, 4, LEAST, MOST}) is(x.trip(0, 0, 1, what), VOID);
        for (int processor : new int[] {-1, 4, 5, LEAST, MOST}) is(x.trip(0, processor, 1, 1), VOID);
        for (int cache : new int[] {-1, 2, 3, 4, LEAST, MOST}) is(x.trip(cache, 0, 1, 1), VOID);
        // As TAKES and GIVES in deed: with VISITS and MAGAZINES MADE ahead that are not as many.
        for (int processor = 0; processor < 3; processor++) {
            for (int n : new int[] {1, 2, 3, 4, 5, 6, 9, 12, 40}) {
                MagazineDepot y = busy();
                int[] due = tripInDeed(busy(), processor, n);
                for (int what = 0; what < 3; what++) is(y.trip(0, processor, n, what), due[what]);
            }
        }
        // Those that are not FULL are taken, none at all as well; 24 MADE: no more VISITS, none MADE more.
        MagazineDepot full = with(0, 400, 64);
        for (int i = 0; i < 64; i++) is(full.take(0, 0) < 0 ? 1 : 0, 0);
        for (int what = 0; what < 3; what++) is(full.trip(0, 0, 40, what), 0);
        gives(full, 0, 32);
        is(full.trip(0, 0, 40, 1), 1);
        is(full.trip(0, 1, 40, 1), 0);
        MagazineDepot many = twentyFour();
        is(many.trip(1, 2, 40, 1), 40);
        is(many.trip(1, 2, 40, 0), 0);
        is(many.trip(1, 2, 40, 2), 0);
        // 20 FULL ones are fetched; of 40 given back four find room in LOADED and PREVIOUS, two each in an EMPTY one.
        is(many.trip(0, 2, 40, 0), 20 + 18);
        is(many.trip(0, 2, 40, 2), 0);
    }

    /** Acts by draws in deed: VISITS, MAGAZINES MADE at the end, TAKES that were FULL, LIVE ones at the end. */
    private static int[] drawnInDeed(MagazineDepot x, int seed, int n) {
        Deque<Integer> taken = new ArrayDeque<>();
        int caches = x.count(0), full = 0, z = seed;
        int visits = -visitsNow(x, caches);
        for (int i = 0; i < n; i++) {
            z = z * 1103515245 + 12345;
            int processor = z >>> 8 & 3;
            switch ((z >>> 16) % 5) {
                case 0:
                    visits += visitsNow(x, caches);
                    x.interval();
                    break;
                case 1: case 2:
                    if (!taken.isEmpty()) is(x.give(taken.pop(), processor) < 0 ? 1 : 0, 0);
                    break;
                default:
                    if (caches == 0) break;
                    int address = x.take((z >>> 10) % caches, processor);
                    if (address < 0) full++; else taken.push(address);
            }
        }
        return new int[] {visits + visitsNow(x, caches), x.count(1), full, x.count(6)};
    }

    private static int visitsNow(MagazineDepot x, int caches) {
        int sum = 0;
        for (int cache = 0; cache < caches; cache++) sum += x.of(cache, 6);
        return sum;
    }

    private static void drawn(Supplier<MagazineDepot> object, int seed, int n) {
        int[] due = drawnInDeed(object.get(), seed, n);
        MagazineDepot x = object.get();
        for (int what = 0; what < 4; what++) is(x.drawn(seed, n, what), due[what]);
    }

    private static void p24() {
        // n (1 .. 400), what 0 .. 3; a SEED is any int.
        MagazineDepot x = twoCaches();
        for (int what = 0; what < 4; what++) {
            for (int n : new int[] {-1, 0, 401, 402, LEAST, MOST}) is(x.drawn(7, n, what), BAD);
            for (int n : new int[] {1, 400}) is(x.drawn(7, n, what) < 0 ? 1 : 0, 0);
        }
        for (int what : new int[] {-1, 4, 5, LEAST, MOST}) is(x.drawn(7, 1, what), BAD);
        // Each act as it would be in deed; z wraps round as an int.
        for (int seed : new int[] {LEAST, -1, 0, 1, MOST, 12345, -987654321}) {
            drawn(() -> with(2, 16, 8), seed, 1);
            drawn(() -> with(5, 16, 8), seed, 400);
            drawn(() -> with(3, 400, 64), seed, 370);
            drawn(Edges::twoCaches, seed, 240);
            drawn(Edges::busy, seed, 200);
            drawn(Edges::twentyFour, seed, 180);
        }
        for (int seed = 100; seed < 140; seed++) drawn(Edges::busy, seed, 1 + seed * 7 % 200);
        // TAKES that were FULL: only those of a CACHE that has none left.
        MagazineDepot full = with(0, 400, 64);
        is(full.cache(0, 400, 64), 1);
        for (int i = 0; i < 64; i++) is(full.take(0, 0) < 0 ? 1 : 0, 0);
        gives(full, 1, 32, 432);
        int[] due = {0, 1, 0, 62};
        for (int what = 0; what < 4; what++) is(full.drawn(seedOfInterval(), 1, what), due[what]);
        // Without CACHES: nothing, but the INTERVALS.
        MagazineDepot none = new MagazineDepot();
        for (int what = 0; what < 4; what++) is(none.drawn(3, 400, what), 0);
        is(none.count(4), 0);
    }

    /** A seed of which the first act is an INTERVAL's end. */
    private static int seedOfInterval() {
        int seed = 0;
        while ((seed * 1103515245 + 12345 >>> 16) % 5 != 0) seed++;
        return seed;
    }

    private static void p25() {
        // A byte (0 .. 255). BAD, FULL (100): of several the one named first.
        MagazineDepot x = new MagazineDepot();
        is(x.feed('a'), 1);
        is(x.feed(':'), 2);
        is(x.feed('1'), 3);
        for (int i = 4; i < 100; i += 2) {
            is(x.feed(';'), i);
            is(x.feed('!'), i + 1);
        }
        for (int letter : new int[] {-1, 256, LEAST, MOST}) is(x.feed(letter), BAD);
        is(x.count(3), 99);
        is(x.feed(255), 100);
        for (int letter : new int[] {-1, 256, LEAST, MOST}) is(x.feed(letter), BAD);
        for (int letter : new int[] {0, '!', 255}) is(x.feed(letter), FULL);
        is(x.count(3), 100);
        // What was FULL is not on it: the 100th byte is at fault, not one behind it.
        is(x.trace(), -199);
        is(x.count(3), 0);
        is(x.feed(0), 1);
        is(x.trace(), -100);
        is(x.feed(255), 1);
        is(x.trace(), -100);
    }

    private static void p26() {
        String[] right = {"z=0@0", "a=3@3", "~z@0", "~a@3", "z:0", "a:999", "a:000", "0(!)", "000(!)", "999(!)", "?0(!)", "?3(!)", "1(a:9)",
            "1(a:99)", "1(a:999)", "1(~a@0)", "1(a=0@0)", "1(1(1(1(1(!)))))", "1(1(1(1(1(!);1(!)))));1(!)", "1(1(1(1(1(!)))));?3(1(1(1(1(!)))))",
            "?3(?2(?1(?0(?0(~z@3)))))", "!;!;!"};
        for (String text : right) is(tell(new MagazineDepot(), text), 1);
        // FAULT: the place of the first byte with which no TEXT goes on.
        Object[][] faults = {{"=0@0", 0}, {":5", 0}, {"@0", 0}, {"(!)", 0}, {"/(!)", 0}, {":(!)", 0}, {"`=0@0", 0}, {"{=0@0", 0},
            {"\u00e1=0@0", 0}, {"\0", 0}, {"a=/@0", 2}, {"a=4@0", 2}, {"a=@0", 2}, {"a=0:0", 3}, {"a=0A0", 3}, {"a=0?0", 3}, {"a=0@/", 4},
            {"a=0@0@", 5}, {"a=0@00", 5}, {"a<0@0", 1}, {"a>0@0", 1}, {"aa=0@0", 1}, {"~`@0", 1}, {"~{@0", 1}, {"~@0", 1}, {"~~a@0", 1},
            {"~a:0", 2}, {"~a=0@0", 2}, {"~a@/", 3}, {"~a@4", 3}, {"~a@00", 4}, {"a::", 2}, {"a:/", 2}, {"a:-1", 2}, {"a:1:", 3},
            {"a:1/", 3}, {"a:12:", 4}, {"a:123:", 5}, {"a:1234", 5}, {"a:1(!)", 3}, {"1:(!)", 1}, {"1/(!)", 1}, {"12:(!)", 2},
            {"1234(!)", 3}, {"1)", 1}, {"1;", 1}, {"1'!)", 1}, {"1)!)", 1}, {"1(;", 2}, {"1(!;;", 4}, {"1(!)(", 4}, {"1(!)1", 4}, {"!(", 1},
            {"! ", 1}, {"!:", 1}, {"!<", 1}, {"?/(!)", 1}, {"?a(!)", 1}, {"?(!)", 1}, {"?0)", 2}, {"?0?", 2}, {"?0(?", 4}, {"1(!))", 4},
            {"1(1(!)))", 7}, {"!;)", 2}, {"!;;", 2}, {"a=0@0\n", 5}};
        for (Object[] of : faults) fault((String) of[0], (Integer) of[1]);
        // The length, if it ends too early: after each byte of a TEXT that is not its last.
        for (String text : new String[] {"a=0@3;", "~z@3;", "b:1", "?2(12(!;", "999(?3(!)"}) {
            for (int n = 0; n < text.length(); n++) {
                String begun = text.substring(0, n);
                boolean isWhole = begun.equals("a=0@3") || begun.equals("~z@3");
                if (isWhole) is(tell(new MagazineDepot(), begun), 1); else fault(begun, n);
            }
        }
        atMostFive();
        whatStays();
    }

    private static void fault(String text, int place) {
        MagazineDepot x = new MagazineDepot();
        is(tell(x, text), -100 - place);
        is(x.count(3), 0);
        is(x.run(), STATE);
    }

    private static void atMostFive() {
        // At most 5 ( are open at once; a sixth ( is at fault itself, not the number or the ? ahead of it.
        fault("1(1(1(1(1(1(!))))))", 11);
        fault("1(1(1(1(1(99(!))))))", 12);
        fault("1(1(1(1(1(999(!))))))", 13);
        fault("?0(?0(?0(?0(?0(?0(!))))))", 17);
        fault("1(1(1(1(1(!);1(!;1(", 18);
        fault("1(1(1(1(1(!)));1(1(1(1(", 22);
        // Ahead of the sixth what is at fault is as ever; a number, a ? may be begun.
        fault("1(1(1(1(1(9!", 11);
        fault("1(1(1(1(1(9999", 13);
        fault("1(1(1(1(1(?4", 11);
        fault("1(1(1(1(1(?0!", 12);
        fault("1(1(1(1(1(12", 12);
        fault("1(1(1(1(1(?", 11);
        fault("1(1(1(1(1(?3", 12);
        fault("1(1(1(1(1(!)))))(", 16);
        fault("1(1(1(1(1(!))))", 15);
    }

    private static void whatStays() {
        // THE TRACE stays as it was; THE TAPE is empty then in any case.
        MagazineDepot x = new MagazineDepot();
        is(tell(x, "!;!;!"), 1);
        is(x.count(3), 0);
        is(tell(x, "!;!;!;!;"), -108);
        is(x.count(3), 0);
        is(x.dry(0), 3);
        is(x.trace(), -100);
        is(x.dry(0), 3);
        is(tell(x, "9(?0(a:1;~q@0)"), -114);
        is(x.run(), 3);
        is(x.count(4), 3);
        // A TEXT of all 100 bytes, and one that ends too early there.
        StringBuilder text = new StringBuilder("~a@0");
        for (int i = 0; i < 19; i++) text.append(";~a@0");
        is(text.length(), 99);
        is(tell(x, text + ";"), -200);
        is(x.dry(0), 3);
        is(tell(x, "7(" + text.substring(0, 97) + ")"), -199);
        is(x.dry(0), 3);
        is(tell(x, "123(" + text.substring(0, 94) + ";!"), -200);
        is(x.dry(0), 3);
        is(tell(x, "!;" + text.substring(0, 94) + ";a:7"), 1);
        is(x.run(), 2);
        is(x.why(), -11);
    }

    /** A RUN in deed of a TEXT on an object with one CACHE: STEPS, WHY, INTERVALS that ended. */
    private static void ran(String text, int steps, int why, int intervals) {
        MagazineDepot x = with(0, 16, 8);
        is(tell(x, text), 1);
        is(x.dry(0), steps);
        is(x.dry(1), why);
        is(x.run(), steps);
        is(x.why(), why);
        is(x.count(4), intervals);
    }

    private static void p27() {
        // STEPS: each S as it begins, and each time that what is in N ( ) is gone through.
        ran("!", 1, 0, 1);
        ran("0(!)", 1, 0, 0);
        ran("000(!;!)", 1, 0, 0);
        ran("1(!)", 3, 0, 1);
        ran("2(3(!))", 1 + 2 * (1 + 1 + 3 * 2), 0, 6);
        ran("2(0(!);!)", 1 + 2 * (1 + 1 + 1), 0, 2);
        ran("?0(!)", 1, 0, 0);
        ran("3(?0(!))", 1 + 3 * 2, 0, 0);
        ran("1(1(1(1(1(!)))))", 11, 0, 1);
        ran("007(!)", 15, 0, 7);
        ran("010(!)", 21, 0, 10);
        // It stops ahead of the 401st STEP: 400 are gone through. 199(!) has 399.
        ran("199(!)", 399, 0, 199);
        ran("199(!);!", 400, 0, 200);
        ran("199(!);!;!", 400, -6, 200);
        ran("199(!);!;0(!)", 400, -6, 200);
        ran("199(!);0(!)", 400, 0, 199);
        ran("199(!);0(!);!", 400, -6, 199);
        ran("199(!);1(!)", 400, -6, 199);
        ran("199(!);?0(!)", 400, 0, 199);
        ran("199(!);?0(!);!", 400, -6, 199);
        ran("999(999(999(!)))", 400, -6, 197);
        // An S that can't be counts as a STEP; as the 401st it is not begun.
        ran("~q@0;!", 1, -11, 0);
        ran("!;!;q:5;!", 3, -11, 2);
        ran("199(!);~q@0;!", 400, -11, 199);
        ran("199(!);!;~q@0", 400, -6, 200);
        ran("199(!);!;q=3@0", 400, -6, 200);
        ran("199(!);q=3@0", 400, -1, 199);
        ran("199(!);?3(!)", 400, -1, 199);
        ran("9(!;9(!;q:0);!);!", 7, -11, 2);
        is(new MagazineDepot().run(), STATE);
        variables();
        changesNothing();
        condition();
    }

    private static void variables() {
        // a .. z; V names what is taken, what it named is named no more; ~ V: V names nothing then; V : N: the WORD.
        MagazineDepot x = with(0, 16, 8);
        is(tell(x, "a=0@0;z=0@1;b=0@2;z:999;b:0;a=0@3;~z@3"), 1);
        is(x.run(), 7);
        is(x.names(0), 80);
        is(x.names(1), 64);
        is(x.names(25), NOT);
        is(x.count(5), 2);
        is(x.state(32), 1);
        is(x.word(32), 32);
        is(x.word(48), 999);
        is(x.word(64), 0);
        is(x.word(80), 80);
        is(x.magazine(0, 3, 1), 48);
        // They stay from RUN to RUN, and from TRACE to TRACE.
        is(tell(x, "y=0@3;~a@1;~b@0"), 1);
        is(x.run(), 3);
        is(x.names(24), 48);
        is(x.count(5), 1);
        is(x.magazine(0, 1, 1), 80);
        is(x.magazine(0, 0, 1), 64);
        // CACHES 0 .. 3 and PROCESSORS 0 .. 3.
        MagazineDepot y = new MagazineDepot();
        for (int cache = 0; cache < 4; cache++) is(y.cache(0, 400, 64), cache);
        is(tell(y, "a=0@3;b=1@2;c=2@1;d=3@0;~a@3;~b@2;~c@1;~d@0"), 1);
        is(y.run(), 8);
        is(y.why(), 0);
        for (int cache = 0; cache < 4; cache++) {
            for (int processor = 0; processor < 4; processor++) {
                is(y.magazine(cache, processor, 1), processor == 3 - cache ? cache * 1024 + 32 : NOT);
            }
        }
        // What it names is told by its ADDRESS: whatever LIVE one begins there.
        MagazineDepot z = with(0, 16, 8);
        is(tell(z, "a=0@0;a:1"), 1);
        is(z.run(), 2);
        gives(z, 0, 32);
        is(z.drain(0, 0), 1);
        is(z.reap(0), 1);
        is(z.cache(0, 400, 8), 1);
        takes(z, 1, 0, 32);
        is(tell(z, "a:77;~a@3"), 1);
        is(z.run(), 2);
        is(z.why(), 0);
        is(z.magazine(1, 3, 1), 32);
        is(z.word(32), 77);
    }

    private static void changesNothing() {
        // An S that can't be changes nothing: no VISIT, no name, no WORD.
        MagazineDepot x = with(4, 400, 64);
        is(tell(x, "a=0@0;b=0@0"), 1);
        is(x.run(), 2);
        for (int i = 2; i < 64; i++) is(x.take(0, 1) < 0 ? 1 : 0, 0);
        String before = told(x);
        is(tell(x, "a=0@0"), 1);
        is(x.run(), 1);
        is(x.why(), FULL);
        is(x.names(0), 32);
        is(told(x), before);
        MagazineDepot y = with(4, 400, 64);
        is(tell(y, "a=0@0;b=0@0;a:1;~b@2;b=0@2;a=1@0"), 1);
        is(y.run(), 6);
        is(y.why(), -1);
        is(y.names(0), 32);
        is(tell(y, "~a@0"), 1);
        is(y.run(), 1);
        is(y.why(), STATE);
        is(y.names(0), 32);
        is(y.state(32), 1);
        is(y.word(32), 1);
        gives(y, 3, 432);
        is(tell(y, "b:5"), 1);
        is(y.run(), 1);
        is(y.why(), -1);
        is(y.word(432), 432 & 255);
        is(y.names(1), 432);
        is(tell(y, "~b@0"), 1);
        is(y.run(), 1);
        is(y.why(), -1);
        is(y.names(1), 432);
        is(y.magazine(0, 3, 1), 432);
        is(y.of(0, 6), 2);
        // V : N does not look whether it is FIT: ~ alone.
        is(tell(y, "a:3;a:5;a:2;~a@1"), 1);
        is(y.run(), 4);
        is(y.why(), 0);
    }

    private static void condition() {
        // ? C ( TEXT ): if THE DEPOT has a FULL MAGAZINE of CACHE C, as the S begins.
        MagazineDepot x = threeFull();
        is(x.cache(0, 400, 64), 1);
        is(tell(x, "?1(!);?0(a=0@1;?0(b=0@1;c=0@1;?0(d=0@1;e=0@1;f=0@1;?0(!))));?0(!)"), 1);
        is(x.run(), 12);
        is(x.why(), 0);
        is(x.count(4), 0);
        is(x.names(5), 32);
        // One that is not full, EMPTY, or with a PROCESSOR is no FULL one of THE DEPOT.
        is(x.of(0, 9), 1);
        is(tell(x, "?0(!)"), 1);
        is(x.run(), 1);
        is(x.count(4), 0);
    }

    private static void p28() {
        // 0: it did not, or there was none.
        MagazineDepot x = with(1, 16, 8);
        is(x.why(), 0);
        is(x.run(), STATE);
        is(x.why(), 0);
        int[][] due = {{-1, 1}, {-11, 1}, {-11, 1}, {-5, 3}, {-6, 400}, {0, 1}};
        String[] texts = {"a=1@0", "~b@0", "b:1", "a=0@0;a:1;~a@0", "999(!)", "!"};
        for (int i = 0; i < texts.length; i++) {
            is(tell(x, texts[i]), 1);
            is(x.why(), i == 0 ? 0 : due[i - 1][0]);
            is(x.dry(1), due[i][0]);
            is(x.why(), i == 0 ? 0 : due[i - 1][0]);
            is(x.run(), due[i][1]);
            is(x.why(), due[i][0]);
        }
        // The latest RUN in deed: neither one in thought, nor an image that is laid back, nor a FAULT changes it.
        is(x.image(), 1);
        is(tell(x, "~b@0"), 1);
        is(x.run(), 1);
        is(x.back(), 1);
        is(x.why(), -11);
        is(x.tuned(0), 1);
        is(x.trace(), -100);
        is(tell(x, "!"), 1);
        is(x.dry(1), 0);
        is(x.why(), -11);
        // WHY -1, of an S that wants a CACHE, and of one that wants a LIVE one.
        MagazineDepot y = new MagazineDepot();
        is(tell(y, "?0(!)"), 1);
        is(y.run(), 1);
        is(y.why(), -1);
        is(tell(y, "a=0@0"), 1);
        is(y.run(), 1);
        is(y.why(), -1);
    }

    private static void p29() {
        // VOID: BAD, or there is no TRACE.
        MagazineDepot x = busy();
        for (int what = -1; what < 5; what++) is(x.dry(what), VOID);
        is(x.trace(), -100);
        is(x.dry(0), VOID);
        is(tell(x, "a=0@0;b=1@1;~a@2;!;~b@3;8(c=0@3)"), 1);
        for (int what : new int[] {-1, 4, 5, LEAST, MOST}) is(x.dry(what), VOID);
        // It changes nothing, variables neither; as the RUN in deed that follows. VISITS of it alone, LIVE ones of all.
        String before = told(x);
        int[] due = {22, 0, 1};
        for (int what = 0; what < 3; what++) is(x.dry(what), due[what]);
        is(x.dry(3), x.count(6) + 8);
        is(x.count(5), 0);
        is(told(x), before);
        MagazineDepot y = busy();
        is(tell(y, "a=0@0;b=0@0;c=0@0;~a@1;~b@1;~c@1"), 1);
        int visits = y.of(0, 6), made = y.count(1);
        is(made != visits ? 1 : 0, 1);
        int inThought = y.dry(2);
        is(y.dry(2), inThought);
        is(y.run(), 6);
        is(y.of(0, 6) - visits, inThought);
        // Variables are what they are now.
        MagazineDepot z = with(0, 16, 8);
        is(tell(z, "a=0@0"), 1);
        is(z.run(), 1);
        is(tell(z, "~a@0"), 1);
        for (int i = 0; i < 2; i++) {
            is(z.dry(1), 0);
            is(z.dry(2), 1);
            is(z.dry(3), 0);
        }
        is(z.names(0), 32);
        is(z.run(), 1);
        is(z.dry(1), -11);
    }

    private static void p30() {
        // BAD; STATE: there is no TRACE. The one named first.
        MagazineDepot x = with(0, 16, 8);
        for (int what : new int[] {-1, 2, 3, LEAST, MOST}) is(x.tuned(what), BAD);
        for (int what = 0; what < 2; what++) is(x.tuned(what), STATE);
        is(tell(x, "!"), 1);
        for (int what : new int[] {-1, 2, 3, LEAST, MOST}) is(x.tuned(what), BAD);
        // Of like ones the least.
        is(x.tuned(0), 1);
        is(x.tuned(1), 0);
        theFewest();
        asItIsNow();
    }

    private static void theFewest() {
        // VISITS by r, from 1: 7, 2, 3, 2, 2, 2, 2, 2. With ROUNDS 3 the fourth INTERVAL that ends without VISITS is at
        // QUIET 3: all is UNMADE, ROUNDS are 2; with 2 it has a VISIT; with 4 ROUNDS are 3 then, enough.
        MagazineDepot x = with(0, 16, 8);
        is(x.limit(0, 3), 4);
        is(tell(x, "3(a=0@0;b=0@0;~a@0;~b@0;!);3(a=0@0;b=0@0;c=0@0;~a@0;~b@0;~c@0;!)"), 1);
        is(x.tuned(0), 2);
        is(x.tuned(1), 2);
        is(x.of(0, 4), 2);
        is(x.count(4), 0);
        // r 8 is tried, too: 9 are given, at 8 and less by two VISITS at least.
        MagazineDepot y = with(0, 16, 8);
        is(tell(y, "a=0@0;b=0@0;c=0@0;d=0@0;e=0@0;f=0@0;g=0@0;h=0@0"), 1);
        is(y.run(), 8);
        is(tell(y, "~a@0;~b@0;~c@0;~d@0;~e@0;~f@0;~g@0;~h@0"), 1);
        is(y.tuned(0), 8);
        is(y.tuned(1), 1);
        is(tell(y, "i=0@0;~a@0;~b@0;~c@0;~d@0;~e@0;~f@0;~g@0;~h@0;~i@0"), 1);
        is(y.tuned(0), 5);
        is(y.tuned(1), 2);
    }

    private static void asItIsNow() {
        // All MAGAZINES of all CACHES, ROUNDS of all CACHES.
        MagazineDepot x = with(0, 16, 8);
        is(x.cache(0, 400, 64), 1);
        takes(x, 1, 0, 32, 432, 1120, 1520);
        gives(x, 0, 32, 432, 1120, 1520);
        is(tell(x, "a=1@0;b=1@0;c=1@0;~a@0;~b@0;~c@0"), 1);
        is(x.dry(2), 0);
        is(x.tuned(0), 3);
        is(x.tuned(1), 1);
        is(x.count(1), 2);
        is(tell(x, "a=0@0;b=1@0;c=1@0;~a@0;~b@0;~c@0"), 1);
        is(x.tuned(0), 2);
        is(x.tuned(1), 2);
        // VISITS of the INTERVAL so far, QUIET, LIMIT stay: at r 8 alone ROUNDS can't be one more.
        MagazineDepot y = with(0, 16, 8);
        visits(y, 5);
        is(tell(y, "a=0@0;~a@0;!;a=0@0;~a@0"), 1);
        is(y.tuned(0), 8);
        is(y.tuned(1), 1);
        MagazineDepot z = with(0, 16, 8);
        is(z.interval(), 0);
        is(z.interval(), 0);
        is(tell(z, "!;a=0@0;b=0@0;~a@0;~b@0"), 1);
        is(z.tuned(0), 3);
        is(z.tuned(1), 1);
        // It stops as a RUN does: by a BUFFER that was in a MAGAZINE, and is not LIVE; by the 401st STEP.
        MagazineDepot stopped = with(0, 16, 8);
        takes(stopped, 0, 0, 32);
        gives(stopped, 0, 32);
        is(tell(stopped, "~a@0;99(b=0@0;~b@0)"), 1);
        is(stopped.tuned(0), 1);
        is(stopped.tuned(1), 0);
        is(tell(stopped, "999(a=0@1;b=0@1;~a@2;~b@2)"), 1);
        is(stopped.why(), 0);
        is(stopped.tuned(0), 8);
        is(stopped.count(1), 1);
    }

    private static void p31() {
        // A variable (0 .. 25). BAD; NOT: nothing.
        MagazineDepot x = with(0, 16, 8);
        is(tell(x, "a=0@0;z=0@0"), 1);
        is(x.run(), 2);
        is(x.names(0), 32);
        is(x.names(25), 48);
        for (int v = 1; v < 25; v++) is(x.names(v), NOT);
        for (int v : new int[] {-1, 26, 27, 'a', LEAST, MOST}) is(x.names(v), BAD);
        // It names an ADDRESS still when no LIVE one begins there.
        gives(x, 0, 32);
        is(x.names(0), 32);
        is(x.count(5), 2);
    }

    private static void p32() {
        // How many CACHES: none, four.
        MagazineDepot x = new MagazineDepot();
        is(x.image(), 0);
        for (int cache = 0; cache < 4; cache++) is(x.cache(0, 16, 8), cache);
        is(x.image(), 4);
        // It is kept: what is done since does not come to it; a later one is kept instead.
        takes(x, 0, 0, 32);
        is(x.back(), 4);
        is(x.count(6), 0);
        takes(x, 0, 0, 32);
        is(x.image(), 4);
        takes(x, 0, 0, 48);
        is(x.back(), 4);
        is(x.count(6), 1);
        is(x.state(32), 1);
        is(x.state(48), 0);
    }

    private static void p33() {
        // STATE: there is none.
        is(new MagazineDepot().back(), STATE);
        is(busy().back(), STATE);
        // Without CACHES: all PAGES are free again, INTERVALS as they were.
        MagazineDepot x = new MagazineDepot();
        is(x.interval(), 0);
        is(x.image(), 0);
        is(x.cache(5, 400, 64), 0);
        takes(x, 0, 2, 32, 432, 1120);
        is(x.limit(0, 0), 4);
        is(x.write(32, 6), 1);
        gives(x, 2, 32);
        is(x.interval(), 1);
        is(x.back(), 0);
        is(x.count(0), 0);
        is(x.count(1), 0);
        is(x.count(2), 32);
        is(x.count(4), 1);
        is(x.of(0, 0), BAD);
        is(x.tally(0), MagazineDepot.NO);
        is(x.state(32), NOT);
        // CACHES made since are gone: one made then begins as any new one.
        is(x.cache(2, 16, 8), 0);
        int[] due = {2, 16, 8, 62, 2, 4, 0, 0, 0, 0, 0, 0, 0, 0, 0, 0};
        for (int what = 0; what < 16; what++) is(x.of(0, what), due[what]);
        is(x.tally(0), 0);
        for (int i = 0; i < 16; i++) is(x.magazine(0, i / 4, i % 4), NOT);
        takes(x, 0, 2, 32);
        is(x.word(32), 4);
        allOfOne();
        stays();
    }

    private static void allOfOne() {
        // All of 1, and how many INTERVALS have ended: after acts of every sort it is as it was, and again.
        MagazineDepot x = busy();
        is(x.image(), 3);
        for (int i = 0; i < 3; i++) is(x.interval() < 0 ? 1 : 0, 0);
        is(x.limit(0, 1), 99);
        is(x.limit(2, 1), 4);
        takes(x, 2, 1, 3104, 3168);
        gives(x, 1, 3168);
        is(x.write(192, -7), 1);
        gives(x, 2, 192);
        is(x.drain(0, 2), 1);
        is(x.reap(1), 1);
        is(x.cache(4, 16, 8), 3);
        is(x.back(), 3);
        is(told(x), told(busy()));
        // The MAGAZINES and WORDS are as they were, in their order.
        takes(x, 0, 2, 208);
        is(x.word(192), 192);
        takes(x, 0, 0, 176, 160, 144, 128);
        is(x.back(), 3);
        is(x.count(4), 1);
        takes(x, 0, 0, 176);
    }

    private static void stays() {
        // THE TRACE, what variables name, WHY, BINS, THE TAPE stay.
        MagazineDepot x = with(0, 16, 8);
        is(x.image(), 1);
        is(tell(x, "a=0@0;b=0@0;~c@0"), 1);
        is(x.run(), 3);
        is(x.bin(2, 3), 1);
        is(x.lay(2, 1, 48), 1);
        is(x.feed('!'), 1);
        is(x.back(), 1);
        is(x.dry(0), 3);
        is(x.names(0), 32);
        is(x.names(1), 48);
        is(x.why(), -11);
        is(x.at(2, 1), 48);
        is(x.at(2, 0), -11);
        is(x.count(3), 1);
        is(x.count(5), 2);
        is(x.count(6), 0);
        // What they name is there no more: no LIVE one begins there.
        is(x.state(48), NOT);
        is(x.pour(2, 1, 1, 0), 0);
        is(x.lay(2, 0, 48), BAD);
        is(x.trace(), 1);
        is(tell(x, "a:5"), 1);
        is(x.run(), 1);
        is(x.why(), -1);
    }

    private static void p34() {
        // BINS 0 .. 3. BAD (BIN; n above 40); -14: a size below 0. The one named first.
        MagazineDepot x = with(0, 16, 8);
        takes(x, 0, 0, 32);
        for (int bin = 0; bin < 4; bin++) {
            is(x.bin(bin, 40), 1);
            is(x.lay(bin, 39, 32), 1);
            is(x.lay(bin, 40, 32), -13);
        }
        for (int bin : new int[] {-1, 4, 5, LEAST, MOST}) for (int n : new int[] {-1, 0, 1, 41}) is(x.bin(bin, n), BAD);
        for (int bin = 0; bin < 4; bin++) {
            for (int n : new int[] {41, 42, MOST}) is(x.bin(bin, n), BAD);
            for (int n : new int[] {-1, -2, -40, -41, LEAST}) is(x.bin(bin, n), -14);
            is(x.at(bin, 39), 32);
        }
        // A row of n places, missing at first: also one that was there; of none.
        is(x.bin(1, 40), 1);
        is(x.at(1, 39), -11);
        is(x.at(2, 39), 32);
        is(x.bin(1, 1), 1);
        is(x.at(1, 0), -11);
        is(x.at(1, 1), -13);
        is(x.bin(1, 0), 1);
        is(x.at(1, 0), -13);
        is(x.lay(1, 0, -1), -13);
    }

    private static void p35() {
        // BAD (BIN; no LIVE one begins there), -11 (the BIN), -13: of several the one named first.
        MagazineDepot x = twoCaches();
        gives(x, 0, 432);
        is(x.bin(3, 2), 1);
        for (int bin : new int[] {-1, 4, 5, LEAST, MOST}) {
            is(x.lay(bin, 0, 32), BAD);
            is(x.lay(bin, 0, -1), BAD);
        }
        for (int address : new int[] {0, 31, 33, 432, 433, 832, 2080, 2544, 3104, 32767, 32768, 65536 + 32, -2, LEAST, MOST}) {
            is(x.lay(3, 0, address), BAD);
            is(x.lay(3, 2, address), BAD);
            is(x.lay(0, 0, address), BAD);
        }
        for (int i : new int[] {-1, 0, 2}) {
            is(x.lay(0, i, 32), -11);
            is(x.lay(0, i, -1), -11);
        }
        for (int i : new int[] {-1, 2, 3, 40, LEAST, MOST}) {
            is(x.lay(3, i, 32), -13);
            is(x.lay(3, i, -1), -13);
        }
        is(x.at(3, 0), -11);
        is(x.at(3, 1), -11);
        // Holds a BUFFER, LIVE now, or is missing (ADDRESS -1). One may stand in two places.
        is(x.lay(3, 0, 2144), 1);
        is(x.lay(3, 1, 2144), 1);
        is(x.at(3, 0), 2144);
        is(x.lay(3, 0, -1), 1);
        is(x.lay(3, 0, -1), 1);
        is(x.at(3, 0), -11);
        is(x.at(3, 1), 2144);
        is(x.lay(3, 1, 1056), 1);
        is(x.at(3, 1), 1056);
        is(x.state(2144), 1);
    }

    private static void p36() {
        // BAD; -11 (the BIN), -13, -11 (the place).
        MagazineDepot x = with(0, 16, 8);
        takes(x, 0, 0, 32);
        is(x.bin(0, 3), 1);
        is(x.bin(3, 40), 1);
        for (int bin : new int[] {-1, 4, 5, LEAST, MOST}) for (int i : new int[] {-1, 0, 3}) is(x.at(bin, i), BAD);
        for (int i : new int[] {-1, 0, 3, LEAST, MOST}) is(x.at(1, i), -11);
        for (int i : new int[] {-1, 3, 4, LEAST, MOST}) is(x.at(0, i), -13);
        for (int i : new int[] {-1, 40, 41, LEAST, MOST}) is(x.at(3, i), -13);
        for (int i = 0; i < 3; i++) is(x.at(0, i), -11);
        is(x.lay(0, 0, 32), 1);
        is(x.lay(3, 39, 32), 1);
        is(x.at(0, 0), 32);
        is(x.at(0, 2), -11);
        is(x.at(3, 39), 32);
        // Whatever becomes of it.
        gives(x, 0, 32);
        is(x.at(0, 0), 32);
        is(x.drain(0, 0), 1);
        is(x.reap(0), 1);
        is(x.at(0, 0), 32);
    }

    /** BIN 3 of six places: LIVE ones 32 to 112 in all of them. KIND LOCK. */
    private static MagazineDepot binned() {
        MagazineDepot x = with(4, 16, 8);
        takes(x, 0, 0, 32, 48, 64, 80, 96, 112);
        is(x.bin(3, 6), 1);
        for (int i = 0; i < 6; i++) is(x.lay(3, i, 32 + 16 * i), 1);
        return x;
    }

    private static void p37() {
        // n (0 .. 40); BAD.
        MagazineDepot x = binned();
        for (int n : new int[] {-1, -2, 41, 42, LEAST, MOST}) is(x.pour(3, 0, n, 0), BAD);
        for (int processor : new int[] {-1, 4, 5, LEAST, MOST}) is(x.pour(3, 0, 1, processor), BAD);
        for (int bin : new int[] {-1, 4, 5, LEAST, MOST}) is(x.pour(bin, 0, 1, 0), BAD);
        is(x.pour(0, 0, 41, 0), BAD);
        is(x.pour(0, 0, -1, 0), BAD);
        is(x.count(7), 0);
        // It ends where the BIN is missing, where a place is not there: how many were, none.
        for (int bin = 0; bin < 3; bin++) is(x.pour(bin, 0, 40, 0), 0);
        for (int i : new int[] {-1, -2, 6, 7, 40, LEAST, MOST}) for (int n : new int[] {0, 1, 40}) is(x.pour(3, i, n, 0), 0);
        is(x.pour(3, 2, 0, 0), 0);
        is(x.count(7), 0);
        // As many as are told, the last place of them too, and no more; by PROCESSOR 3.
        is(x.pour(3, 1, 2, 3), 2);
        int[] due = {32, -11, -11, 80, 96, 112};
        for (int i = 0; i < 6; i++) is(x.at(3, i), due[i]);
        is(x.magazine(0, 3, 0), 2);
        is(x.magazine(0, 3, 1), 64);
        // Where a place is missing; where one is not there, behind the last.
        is(x.pour(3, 0, 6, 3), 1);
        is(x.pour(3, 0, 6, 3), 0);
        is(x.pour(3, 5, 40, 3), 1);
        is(x.pour(3, 3, 2, 0), 2);
        for (int i = 0; i < 6; i++) is(x.at(3, i), -11);
        is(x.count(7), 6);
        poursEnd();
        fortyPlaces();
    }

    private static void poursEnd() {
        // Where one is not LIVE: given, ended, or there twice; the place stays.
        MagazineDepot x = binned();
        gives(x, 0, 64);
        is(x.pour(3, 0, 6, 1), 2);
        is(x.at(3, 2), 64);
        is(x.at(3, 3), 80);
        is(x.drain(0, 0), 1);
        is(x.pour(3, 2, 4, 1), 0);
        is(x.lay(3, 4, 80), 1);
        is(x.pour(3, 3, 3, 1), 1);
        is(x.at(3, 4), 80);
        is(x.at(3, 5), 112);
        // Where one is not FIT.
        is(x.hold(112), 1);
        is(x.pour(3, 5, 1, 1), 0);
        is(x.at(3, 5), 112);
        is(x.letGo(112), 1);
        is(x.pour(3, 5, 1, 1), 1);
        // A GIVE that ends the BUFFER is one, too: 24 are MADE.
        MagazineDepot y = twentyFour();
        is(y.bin(0, 2), 1);
        is(y.lay(0, 0, 736), 1);
        is(y.lay(0, 1, 1120), 1);
        is(y.pour(0, 0, 2, 3), 2);
        is(y.state(736), 0);
        is(y.state(1120), 0);
        is(y.at(0, 0), -11);
        is(y.at(0, 1), -11);
    }

    private static void fortyPlaces() {
        MagazineDepot x = with(0, 16, 8);
        for (int i = 0; i < 40; i++) is(x.take(0, 0), 32 + 16 * i);
        is(x.bin(0, 40), 1);
        for (int i = 0; i < 40; i++) is(x.lay(0, i, 32 + 16 * i), 1);
        is(x.pour(0, 0, 40, 2), 40);
        is(x.count(7), 40);
        is(x.of(0, 6), 20);
        is(x.magazine(0, 2, 1), 32 + 16 * 39);
    }

    private static void p38() {
        // BAD, -11 (either BIN), -13 (n, i or j below 0, too): of several the one named first.
        MagazineDepot x = binned();
        is(x.bin(0, 3), 1);
        for (int bin : new int[] {-1, 4, 5, LEAST, MOST}) {
            for (int n : new int[] {-1, 0, 1}) {
                is(x.shift(bin, 0, 3, 0, n), BAD);
                is(x.shift(3, 0, bin, 0, n), BAD);
                is(x.shift(1, 0, bin, 0, n), BAD);
            }
        }
        for (int n : new int[] {-1, 0, 1, 40}) {
            is(x.shift(1, 0, 3, 0, n), -11);
            is(x.shift(3, 0, 1, 0, n), -11);
            is(x.shift(1, -1, 2, -1, n), -11);
            is(x.shift(2, 0, 2, 0, n), -11);
        }
        for (int n : new int[] {-1, 4, 7, 40, 41, LEAST, MOST}) is(x.shift(3, 0, 0, 0, n), -13);
        for (int n : new int[] {0, 1, 2}) {
            for (int far : new int[] {-1, LEAST, MOST, MOST - 1, 41}) {
                is(x.shift(3, far, 0, 0, n), -13);
                is(x.shift(3, 0, 0, far, n), -13);
            }
        }
        is(x.shift(3, 5, 0, 0, 2), -13);
        is(x.shift(3, 0, 0, 2, 2), -13);
        is(x.shift(3, MOST, 0, MOST, MOST), -13);
        is(x.shift(3, 1, 0, 1, MOST), -13);
        is(x.shift(0, 1, 3, 0, 3), -13);
        for (int i = 0; i < 6; i++) is(x.at(3, i), 32 + 16 * i);
        for (int i = 0; i < 3; i++) is(x.at(0, i), -11);
        // None: from and to the end, too. All of a row; the last place.
        is(x.shift(3, 0, 0, 0, 0), 0);
        is(x.shift(3, 6, 0, 3, 0), 0);
        is(x.at(0, 0), -11);
        is(x.shift(3, 3, 0, 0, 3), 3);
        is(x.shift(3, 5, 0, 0, 1), 1);
        int[] due = {112, 96, 112};
        for (int i = 0; i < 3; i++) is(x.at(0, i), due[i]);
        for (int i = 0; i < 6; i++) is(x.at(3, i), 32 + 16 * i);
        is(x.shift(0, 0, 3, 3, 3), 3);
        is(x.at(3, 3), 112);
        is(x.at(3, 4), 96);
        is(x.at(3, 5), 112);
        asTheyAllWere();
    }

    private static void asTheyAllWere() {
        // As they all were before: within one row, up, down and onto themselves; what is missing comes as missing.
        int[][] due = {{0, 1, 5, 32, 32, 48, 64, 80, 96}, {1, 0, 5, 48, 64, 80, 96, 112, 112}, {0, 2, 4, 32, 48, 32, 48, 64, 80},
            {2, 0, 4, 64, 80, 96, 112, 96, 112}, {0, 0, 6, 32, 48, 64, 80, 96, 112}, {0, 3, 3, 32, 48, 64, 32, 48, 64},
            {5, 0, 1, 112, 48, 64, 80, 96, 112}};
        for (int[] of : due) {
            MagazineDepot x = binned();
            is(x.shift(3, of[0], 3, of[1], of[2]), of[2]);
            for (int i = 0; i < 6; i++) is(x.at(3, i), of[3 + i]);
        }
        MagazineDepot x = binned();
        is(x.lay(3, 1, -1), 1);
        is(x.shift(3, 0, 3, 2, 3), 3);
        int[] then = {32, -11, 32, -11, 64, 112};
        for (int i = 0; i < 6; i++) is(x.at(3, i), then[i]);
        // It comes whatever became of it: no one need be LIVE.
        gives(x, 0, 64);
        is(x.bin(2, 1), 1);
        is(x.shift(3, 4, 2, 0, 1), 1);
        is(x.at(2, 0), 64);
        is(x.count(7), 1);
    }

    private static void p39() {
        // what 0 .. 7. BAD.
        MagazineDepot x = busy();
        // LIVE: 192, 112, 96, 80, 64, 48, 2144; in MAGAZINES: 32, 128, 144, 160, 176, 1456. One of six holds none.
        int[] due = {3, 6, 29, 0, 1, 0, 7, 6};
        for (int what = 0; what < 8; what++) is(x.count(what), due[what]);
        for (int what : new int[] {-1, 8, 9, 16, LEAST, MOST}) is(x.count(what), BAD);
        // LIVE ones, those in MAGAZINES: of all CACHES; FREE ones are neither.
        MagazineDepot y = twoCaches();
        gives(y, 0, 32, 1056);
        is(y.count(6), 3);
        is(y.count(7), 2);
        is(y.count(1), 2);
        is(y.drain(1, 0), 1);
        is(y.count(6), 3);
        is(y.count(7), 1);
        is(y.count(1), 1);
        refusals();
    }

    /** CACHES of KIND ZERO and LOCK, MAGAZINES, a TRACE, variables, BINS, an image; no PAGE is free. */
    private static MagazineDepot rich() {
        MagazineDepot x = with(1, 400, 64);
        is(x.cache(4, 400, 64), 1);
        is(x.cache(0, 16, 8), 2);
        is(x.cache(0, 16, 8), 3);
        takes(x, 1, 0, 32, 432);
        is(x.hold(32), 1);
        is(tell(x, "62(a=0@1);~a@2;b=0@3"), 1);
        is(x.run(), 127);
        is(x.write(1056, 7), 1);
        gives(x, 2, 1456);
        is(x.image(), 4);
        is(x.bin(0, 3), 1);
        is(x.lay(0, 1, 1056), 1);
        is(x.bin(1, 1), 1);
        is(x.feed('!'), 1);
        return x;
    }

    private static String toldOfAll(MagazineDepot x) {
        StringBuilder out = new StringBuilder(told(x));
        for (int v = 0; v < 3; v++) out.append(x.names(v)).append(' ');
        for (int i = 0; i < 4; i++) out.append(x.at(i, i)).append(' ').append(x.at(0, i)).append(' ');
        out.append(x.why()).append(' ').append(x.dry(0)).append(' ').append(x.word(32)).append(' ').append(x.word(1056));
        return out.toString();
    }

    private static void refusals() {
        // What is answered so changes nothing.
        MagazineDepot x = rich();
        refused(x, new long[] {x.cache(6, 16, 8), x.cache(0, 16, 8), x.limit(4, 1), x.limit(0, 100), x.take(4, 0), x.take(2, 0), x.take(0, 4),
            x.give(32, 0), x.give(1056, 0), x.give(1056, 4), x.give(33, 0), x.write(33, 1), x.write(1456, 1), x.word(33), x.hold(1056),
            x.hold(33), x.letGo(1056), x.letGo(33), x.drain(0, 4), x.drain(4, 0), x.reap(4), x.state(33), x.state(-1), x.owner(-1),
            x.bytes(7), x.page(32, 0), x.map(32, 0), x.of(0, 16), x.tally(4), x.magazine(3, 0, 0), x.lines(4, 0), x.ahead(2, 0, 40, 39),
            x.ahead(2, 0, 41, 0), x.trip(2, 0, 41, 0), x.drawn(1, 401, 0), x.feed(256), x.dry(4), x.tuned(2), x.names(26), x.bin(4, 1),
            x.bin(0, 41), x.bin(0, -1), x.lay(0, 1, 1456), x.lay(2, 0, 32), x.lay(0, 3, 32), x.at(2, 0), x.at(0, 0), x.at(0, 3),
            x.pour(0, 1, 41, 0), x.shift(0, 0, 2, 0, 1), x.shift(0, 0, 1, 0, 2), x.shift(0, 0, 0, 1, 3), x.count(8)});
        is(x.pour(0, 1, 1, 0), 0);
        is(toldOfAll(x), toldOfAll(rich()));
    }

    private static void refused(MagazineDepot x, long[] answers) {
        long[] due = {BAD, FULL, BAD, BAD, BAD, FULL, BAD, STATE, STATE, BAD, BAD, BAD, BAD, MagazineDepot.NO, STATE, BAD, STATE, BAD, BAD,
            BAD, BAD, NOT, BAD, BAD, BAD, BAD, BAD, BAD, MagazineDepot.NO, NOT, BAD, NOT, BAD, VOID, BAD, BAD, VOID, BAD, BAD, BAD, BAD, -14,
            BAD, -11, -13, -11, -11, -13, BAD, -11, -13, -13, BAD};
        is(answers.length, due.length);
        for (int i = 0; i < due.length; i++) is(answers[i], due[i]);
        is(x.count(3), 1);
    }
}
