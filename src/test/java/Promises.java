/**
 * The document's promises, one method each: ordinary calls, the edges it names, wrong calls.
 * The answers due were worked out by hand from the document.
 */
public final class Promises extends Check {
    /** The first seed from 0 on of which the first act by a draw is of that number, and a TAKE then if 'next' is 3. */
    private static int seedOf(int act, int next) {
        for (int seed = 0; ; seed++) {
            int z = seed * 1103515245 + 12345;
            int then = z * 1103515245 + 12345;
            if ((z >>> 16) % 5 == act && (next < 0 || (then >>> 16) % 5 == next)) return seed;
        }
    }

    public static void main(String[] args) {
        runAll(Promises::p1, Promises::p2, Promises::p3, Promises::p4, Promises::p5, Promises::p6, Promises::p7,
            Promises::p8, Promises::p9, Promises::p10, Promises::p11, Promises::p12, Promises::p13, Promises::p14, Promises::p15,
            Promises::p16, Promises::p17, Promises::p18, Promises::p19, Promises::p20, Promises::p21, Promises::p22, Promises::p23,
            Promises::p24, Promises::p25, Promises::p26, Promises::p27, Promises::p28, Promises::p29, Promises::p30, Promises::p31,
            Promises::p32, Promises::p33, Promises::p34, Promises::p35, Promises::p36, Promises::p37, Promises::p38, Promises::p39);
    }

    private static void p1() {
        is(MagazineDepot.BAD, -1);
        is(MagazineDepot.NOT, -2);
        is(MagazineDepot.FULL, -3);
        is(MagazineDepot.STATE, -5);
        is(MagazineDepot.VOID, -2000000000);
        is(MagazineDepot.NO, Long.MIN_VALUE);
        MagazineDepot x = new MagazineDepot();
        for (int what = 0; what < 8; what++) is(x.count(what), what == 2 ? 32 : 0);
        for (int owner = 0; owner < 7; owner++) is(x.bytes(owner), owner == 0 ? 32768 : 0);
        for (int page = 0; page < 32; page++) is(x.page(page, 0), NOT);
        is(x.take(0, 0), BAD);
        is(x.tally(0), MagazineDepot.NO);
        is(x.why(), 0);
        is(x.run(), STATE);
        is(x.back(), STATE);
        is(x.names(0), NOT);
        is(x.at(0, 0), -11);
        is(x.interval(), 0);
    }

    private static void p2() {
        MagazineDepot x = new MagazineDepot();
        for (int kind : new int[] {-1, 6, LEAST, MOST}) is(x.cache(kind, 16, 8), BAD);
        for (int size : new int[] {8, 15, 17, 20, 392 + 4, 401, 408, 0, -16, LEAST, MOST}) is(x.cache(0, size, 8), BAD);
        for (int step : new int[] {0, 4, 7, 12, 65, 72, -8, LEAST, MOST}) is(x.cache(0, 16, step), BAD);
        is(x.count(0), 0);
        is(x.cache(5, 16, 64), 0);
        is(x.cache(0, 400, 8), 1);
        is(x.cache(1, 24, 16), 2);
        is(x.cache(4, 392, 56), 3);
        is(x.cache(0, 16, 8), FULL);
        is(x.cache(6, 16, 8), BAD);
        is(x.cache(0, 12, 8), BAD);
        is(x.count(0), 4);
        is(x.of(0, 0), 5);
        is(x.of(3, 1), 392);
    }

    private static void p3() {
        MagazineDepot x = with(0, 16, 8);
        is(x.limit(0, 99), 4);
        is(x.limit(0, 100), BAD);
        is(x.limit(0, -1), BAD);
        is(x.limit(1, 5), BAD);
        is(x.limit(-1, 5), BAD);
        is(x.limit(LEAST, 5), BAD);
        is(x.limit(0, 0), 99);
        is(x.of(0, 5), 0);
        takes(x, 0, 0, 32);
        is(x.give(32, 0), 1);
        is(x.interval(), 1);
        is(x.of(0, 4), 3);
        is(x.limit(0, 1), 0);
        takes(x, 0, 0, 32);
        is(x.give(32, 0), 1);
        is(x.interval(), 0);
        is(x.of(0, 4), 3);
    }

    private static void p4() {
        MagazineDepot x = with(0, 400, 64);
        is(x.take(1, 0), BAD);
        is(x.take(-1, 0), BAD);
        is(x.take(0, 4), BAD);
        is(x.take(0, -1), BAD);
        takes(x, 0, 0, 32, 432, 1120, 1520, 2208);
        gives(x, 0, 32, 432, 1120, 1520, 2208);
        is(x.of(0, 6), 3);
        takes(x, 0, 1, 432, 32, 2608);
        is(x.of(0, 6), 4);
        is(x.magazine(0, 1, 2), NOT);
        gives(x, 0, 2608, 32);
        takes(x, 0, 1, 1520, 1120, 3296);
        gives(x, 0, 432, 3296);
        is(x.of(0, 9), 0);
        takes(x, 0, 1, 2608);
        is(x.of(0, 9), 1);
        is(x.magazine(0, 1, 2), 0);
        is(x.of(0, 6), 8);
        takes(x, 0, 0, 3296, 432, 32);
        is(x.magazine(0, 0, 0), 0);
        is(x.magazine(0, 0, 2), 0);
        is(x.of(0, 6), 8);
        fullArena();
        firstPageFirst();
    }

    private static void fullArena() {
        MagazineDepot x = with(0, 400, 64);
        for (int i = 0; i < 64; i++) is(x.take(0, i & 3) >= 0 ? 1 : 0, 1);
        is(x.take(0, 0), FULL);
        is(x.count(2), 0);
        is(x.cache(0, 16, 8), 1);
        is(x.take(1, 0), FULL);
        is(x.of(0, 14), 64);
        gives(x, 2, 432);
        is(x.take(0, 0), FULL);
        is(x.take(0, 2), 432);
    }

    /** The first SLAB by PAGES that has a FREE one, and there that of the least ADDRESS. */
    private static void firstPageFirst() {
        MagazineDepot x = with(0, 400, 64);
        takes(x, 0, 0, 32, 432, 1120, 1520);
        gives(x, 0, 1520, 432, 32);
        is(x.drain(0, 0), 3);
        takes(x, 0, 0, 32, 432, 1520, 2208);
    }

    private static void p5() {
        MagazineDepot x = with(1, 400, 64);
        is(x.give(32, 0), BAD);
        takes(x, 0, 0, 32, 432, 1120);
        is(x.give(33, 0), BAD);
        is(x.give(-1, 0), BAD);
        is(x.give(32768, 0), BAD);
        is(x.give(LEAST, 0), BAD);
        is(x.give(32, 4), BAD);
        is(x.give(32, -1), BAD);
        is(x.write(32, 9), 1);
        is(x.give(32, 9), BAD);
        is(x.give(32, 0), STATE);
        is(x.state(32), 1);
        is(x.write(32, 0), 1);
        is(x.give(32, 0), 1);
        is(x.give(32, 0), BAD);
        is(x.give(432, 1), 2);
        is(x.give(1120, 0), 3);
        is(x.of(0, 6), 2);
        is(x.cache(0, 16, 8), 1);
        takes(x, 1, 0, 2080);
        is(x.give(2080, 0), 1);
        noMoreMagazines();
        fitOfEachKind();
        roomInPrevious();
    }

    /** With 24 made and none EMPTY a GIVE that finds no room ends the BUFFER, without a VISIT. */
    private static void noMoreMagazines() {
        MagazineDepot x = with(0, 16, 8);
        for (int i = 0; i < 50; i++) is(x.take(0, 0), 32 + 16 * i);
        for (int i = 0; i < 48; i++) is(x.give(32 + 16 * i, 0), i + 1);
        is(x.count(1), 24);
        is(x.of(0, 6), 24);
        is(x.write(800, 23), 1);
        is(x.give(800, 0), 48);
        is(x.state(800), 0);
        is(x.of(0, 6), 24);
        is(x.of(0, 15), 1);
        is(x.tally(0), 7);
        is(x.give(816, 3), 48);
        is(x.magazine(0, 3, 0), NOT);
        is(x.tally(0), 7);
    }

    private static void fitOfEachKind() {
        int[][] words = {{0, 5, 1}, {0, -1, 1}, {1, 0, 1}, {1, 1, 0}, {2, 4, 1}, {2, 0, 0}, {3, 128, 1}, {3, 4, 0}, {4, 8, 1},
            {4, -2, 1}, {4, 3, 0}, {5, 8, 1}, {5, 9, 0}, {5, -2, 0}, {5, 0, 1}, {5, LEAST, 0}, {4, LEAST, 1}};
        for (int[] of : words) {
            MagazineDepot x = with(of[0], 80, 8);
            takes(x, 0, 0, 32);
            is(x.write(32, of[1]), 1);
            is(x.give(32, 0), of[2] == 1 ? 1 : STATE);
        }
    }

    /** LOADED is full, PREVIOUS is not: the two are exchanged, no VISIT. */
    private static void roomInPrevious() {
        MagazineDepot x = with(0, 16, 8);
        takes(x, 0, 0, 32, 48, 64, 80);
        gives(x, 0, 32, 48, 64);
        takes(x, 0, 0, 64, 48);
        gives(x, 0, 48, 64);
        is(x.of(0, 6), 2);
        is(x.magazine(0, 0, 0), 1);
        is(x.magazine(0, 0, 1), 64);
        is(x.magazine(0, 0, 2), 2);
        is(x.magazine(0, 0, 3), 48);
        takes(x, 0, 0, 64, 48);
        is(x.magazine(0, 0, 0), 1);
        is(x.magazine(0, 0, 2), 0);
        is(x.give(48, 0), 2);
        is(x.give(64, 0), 3);
        is(x.give(80, 0), 4);
        is(x.of(0, 6), 2);
        is(x.count(1), 2);
    }

    private static void p6() {
        MagazineDepot x = with(0, 80, 8);
        is(x.write(32, 5), BAD);
        takes(x, 0, 0, 32);
        is(x.write(32, LEAST), 1);
        is(x.word(32), LEAST);
        is(x.write(32, MOST), 1);
        is(x.word(32), MOST);
        is(x.write(112, 1), BAD);
        is(x.write(40, 1), BAD);
        is(x.write(-1, 1), BAD);
        is(x.write(32768, 1), BAD);
        is(x.give(32, 0), 1);
        is(x.write(32, 1), BAD);
        is(x.word(32), MOST);
    }

    private static void p7() {
        int[][] due = {{0, 32, 136, 240, 88}, {1, 0, 0, 0, 0}, {2, 4, 17, 30, 43}, {3, 128, 544, 960, 1376}, {4, 32, 136, 240, 88},
            {5, 64, 272, 480, 176}};
        for (int[] of : due) {
            MagazineDepot x = with(of[0], 104, 8);
            takes(x, 0, 0, 32, 136, 240, 344);
            for (int i = 0; i < 4; i++) is(x.word(32 + 104 * i), of[i + 1]);
        }
        MagazineDepot x = with(2, 104, 8);
        is(x.word(32), MagazineDepot.NO);
        takes(x, 0, 0, 32);
        is(x.word(136), MagazineDepot.NO);
        is(x.word(33), MagazineDepot.NO);
        is(x.word(0), MagazineDepot.NO);
        is(x.word(-1), MagazineDepot.NO);
        is(x.word(32768), MagazineDepot.NO);
        is(x.word(LEAST), MagazineDepot.NO);
        is(x.give(32, 0), 1);
        is(x.word(32), 4);
        is(x.drain(0, 0), 1);
        is(x.word(32), MagazineDepot.NO);
    }

    private static void p8() {
        for (int kind = 0; kind < 6; kind++) {
            MagazineDepot x = with(kind, 80, 8);
            is(x.hold(32), BAD);
            takes(x, 0, 0, 32);
            is(x.hold(32), kind < 4 ? STATE : 1);
            is(x.hold(32), kind < 4 ? STATE : 0);
            is(x.hold(33), BAD);
            is(x.hold(-1), BAD);
            is(x.hold(MOST), BAD);
        }
        MagazineDepot x = with(5, 80, 8);
        takes(x, 0, 0, 32);
        is(x.write(32, -4), 1);
        is(x.hold(32), 1);
        is(x.word(32), -3);
        is(x.letGo(32), 1);
        is(x.write(32, 4), 1);
        is(x.give(32, 0), 1);
        is(x.hold(32), BAD);
    }

    private static void p9() {
        for (int kind = 0; kind < 6; kind++) {
            MagazineDepot x = with(kind, 80, 8);
            is(x.letGo(32), BAD);
            takes(x, 0, 0, 32);
            is(x.letGo(32), kind < 4 ? STATE : 0);
            is(x.letGo(112), BAD);
            is(x.letGo(-1), BAD);
        }
        MagazineDepot x = with(4, 80, 8);
        takes(x, 0, 0, 32);
        is(x.write(32, -1), 1);
        is(x.letGo(32), 1);
        is(x.word(32), -2);
        is(x.letGo(32), 0);
    }

    private static void p10() {
        MagazineDepot x = threeFull();
        is(x.of(0, 10), 0);
        is(x.interval(), 0);
        is(x.of(0, 10), 3);
        is(x.of(0, 6), 0);
        is(x.give(192, 0), 11);
        is(x.of(0, 8), 4);
        is(x.of(0, 10), 3);
        takes(x, 0, 1, 144, 128, 112);
        is(x.of(0, 10), 2);
        is(x.of(0, 8), 2);
        gives(x, 1, 112, 128, 144);
        is(x.of(0, 8), 2);
        takes(x, 0, 3, 80);
        is(x.of(0, 10), 1);
        gives(x, 3, 80);
        is(x.interval(), 1);
        is(x.state(32), 0);
        is(x.state(48), 0);
        is(x.of(0, 15), 2);
        is(x.count(4), 2);
        firstBroughtFirst();
        emptyOnesGo();
        roundsFollow();
    }

    private static void firstBroughtFirst() {
        MagazineDepot x = threeFull();
        is(x.interval(), 0);
        takes(x, 0, 1, 112, 96);
        is(x.give(192, 0), 9);
        is(x.of(0, 8), 3);
        is(x.of(0, 10), 2);
        is(x.interval(), 2);
        for (int address : new int[] {32, 48, 64, 80}) is(x.state(address), 0);
        is(x.state(128), 2);
        is(x.of(0, 8), 1);
        is(x.of(0, 10), 1);
        is(x.of(0, 7), 0);
        is(x.interval(), 1);
        is(x.state(128), 0);
        is(x.of(0, 7), 1);
    }

    private static void emptyOnesGo() {
        MagazineDepot x = threeFull();
        takes(x, 0, 1, 112, 96, 80, 64, 48, 32);
        is(x.of(0, 9), 1);
        is(x.of(0, 11), 0);
        is(x.interval(), 0);
        is(x.of(0, 11), 1);
        is(x.interval(), 1);
        is(x.of(0, 9), 0);
        is(x.of(0, 15), 0);
        is(x.count(1), 4);
        // An EMPTY one that is fetched since the INTERVAL began was not too many.
        MagazineDepot y = threeFull();
        takes(y, 0, 1, 112, 96, 80, 64, 48, 32);
        is(y.interval(), 0);
        is(y.of(0, 11), 1);
        gives(y, 2, 32);
        is(y.of(0, 9), 0);
        is(y.of(0, 11), 0);
        is(y.count(1), 5);
        takes(y, 0, 2, 32);
        takes(y, 0, 0, 176, 160, 144, 128);
        gives(y, 3, 32, 48, 64, 80, 96);
        is(y.of(0, 8), 1);
        takes(y, 0, 1, 48);
        is(y.of(0, 9), 1);
        is(y.interval(), 0);
        is(y.of(0, 9), 1);
    }

    private static void roundsFollow() {
        MagazineDepot x = with(2, 16, 8);
        is(x.cache(0, 16, 8), 1);
        for (int i = 0; i < 9; i++) is(x.take(0, 0), 32 + 16 * i);
        for (int i = 0; i < 8; i++) is(x.give(32 + 16 * i, 0), i + 1);
        is(x.of(0, 6), 4);
        is(x.interval(), 0);
        is(x.of(0, 4), 2);
        is(x.interval(), 2);
        is(x.of(0, 7), 1);
        is(x.interval(), 0);
        is(x.of(0, 7), 2);
        is(x.of(1, 7), 0);
        is(x.of(1, 4), 1);
        is(x.give(160, 1), 5);
        is(x.interval(), 0);
        is(x.of(0, 7), 0);
        is(x.of(0, 4), 2);
        eightIsTheMost();
        allGoWithTheRounds();
    }

    /** ROUNDS change: FULL and EMPTY ones too are EMPTIED and UNMADE, and all of each PROCESSOR's. */
    private static void allGoWithTheRounds() {
        MagazineDepot x = threeFull();
        takes(x, 0, 1, 112, 96, 80);
        is(x.of(0, 8), 1);
        takes(x, 0, 1, 64, 48);
        is(x.of(0, 9), 1);
        is(x.give(48, 2), 6);
        is(x.give(64, 2), 7);
        is(x.give(80, 2), 8);
        is(x.give(96, 2), 9);
        is(x.give(112, 2), 10);
        is(x.of(0, 8), 1);
        is(x.limit(0, 10), 99);
        takes(x, 0, 1, 32, 64);
        is(x.of(0, 9), 1);
        is(x.of(0, 6), 12);
        is(x.count(1), 7);
        is(x.interval(), 7);
        is(x.count(1), 0);
        is(x.count(7), 0);
        for (int what = 8; what < 12; what++) is(x.of(0, what), 0);
        for (int i = 0; i < 16; i++) is(x.magazine(0, i / 4, i % 4), NOT);
        is(x.of(0, 15), 8);
        takes(x, 0, 0, 48);
        is(x.of(0, 6), 0);
    }

    private static void eightIsTheMost() {
        MagazineDepot x = with(2, 16, 8);
        is(x.limit(0, 0), 4);
        for (int rounds = 3; rounds <= 8; rounds++) {
            takes(x, 0, 0, 32);
            is(x.give(32, 0), 1);
            is(x.interval(), 1);
            is(x.of(0, 4), rounds);
            is(x.magazine(0, 0, 0), NOT);
        }
        is(x.tally(0), 6 * 5);
        takes(x, 0, 0, 32);
        is(x.give(32, 0), 1);
        is(x.interval(), 0);
        is(x.of(0, 4), 8);
        for (int rounds = 7; rounds >= 1; rounds--) {
            is(x.interval(), 0);
            is(x.interval(), 0);
            is(x.of(0, 7), 2);
            is(x.interval(), rounds == 7 ? 1 : 0);
            is(x.of(0, 7), 0);
            is(x.of(0, 4), rounds);
        }
        for (int i = 0; i < 3; i++) is(x.interval(), 0);
        is(x.of(0, 4), 1);
        is(x.of(0, 7), 0);
        // ROUNDS are 1 and stay: MAGAZINES do as well.
        takes(x, 0, 0, 32);
        is(x.give(32, 0), 1);
        is(x.limit(0, 9), 0);
        for (int i = 0; i < 4; i++) is(x.interval(), 0);
        is(x.of(0, 7), 0);
        is(x.magazine(0, 0, 0), 1);
        // QUIET is 0 by VISITS beyond LIMIT, too.
        for (int i = 0; i < 2; i++) is(x.interval(), 0);
        is(x.of(0, 7), 2);
        is(x.limit(0, 0), 9);
        takes(x, 0, 0, 32, 48);
        gives(x, 0, 32, 48);
        is(x.interval(), 2);
        is(x.of(0, 7), 0);
        is(x.of(0, 4), 2);
        MagazineDepot y = threeFull();
        is(y.limit(0, 0), 99);
        is(y.interval(), 5);
        is(y.of(0, 15), 10);
        for (int i = 0; i < 10; i++) is(y.state(32 + 16 * i), 0);
    }

    private static void p11() {
        MagazineDepot x = threeFull();
        is(x.drain(1, 0), BAD);
        is(x.drain(-1, 0), BAD);
        is(x.drain(0, 4), BAD);
        is(x.drain(0, -1), BAD);
        is(x.drain(0, 1), 0);
        is(x.drain(0, 0), 4);
        is(x.count(1), 3);
        is(x.magazine(0, 0, 0), NOT);
        is(x.magazine(0, 0, 2), NOT);
        is(x.of(0, 15), 4);
        is(x.of(0, 8), 3);
        is(x.drain(0, 0), 0);
        takes(x, 0, 0, 112);
        is(x.drain(0, 0), 1);
        // What another PROCESSOR is given then is not this one's.
        MagazineDepot y = threeFull();
        is(y.drain(0, 0), 4);
        takes(y, 0, 1, 112, 96, 80, 64, 48, 32);
        is(y.interval(), 0);
        is(y.interval(), 1);
        gives(y, 2, 32, 48, 64, 80, 96, 112);
        is(y.count(1), 5);
        is(y.magazine(0, 0, 0), NOT);
        is(y.magazine(0, 0, 2), NOT);
        // 24 can be MADE again.
        MagazineDepot z = with(0, 16, 8);
        for (int i = 0; i < 51; i++) is(z.take(0, 0), 32 + 16 * i);
        for (int i = 0; i < 48; i++) is(z.give(32 + 16 * i, 0), i + 1);
        is(z.drain(0, 0), 4);
        is(z.count(1), 22);
        is(z.give(800, 0), 45);
        is(z.give(816, 1), 46);
        is(z.count(1), 24);
        is(z.give(832, 2), 46);
        is(z.state(832), 0);
    }

    private static void p12() {
        MagazineDepot x = with(0, 400, 64);
        is(x.reap(1), BAD);
        is(x.reap(-1), BAD);
        is(x.reap(0), 0);
        takes(x, 0, 0, 32, 432, 1120, 1520, 2208);
        gives(x, 0, 32, 432, 1120);
        is(x.reap(0), 0);
        is(x.drain(0, 0), 3);
        is(x.cache(0, 16, 8), 1);
        is(x.reap(1), 0);
        is(x.reap(0), 1);
        is(x.page(0, 0), NOT);
        is(x.state(32), NOT);
        is(x.page(1, 0), 0);
        is(x.of(0, 12), 2);
        is(x.of(0, 13), 192);
        takes(x, 1, 0, 32);
        takes(x, 0, 0, 1120, 2608, 3296);
    }

    private static void p13() {
        MagazineDepot x = with(0, 400, 64);
        is(x.state(32), NOT);
        is(x.state(-1), BAD);
        is(x.state(32768), BAD);
        is(x.state(LEAST), BAD);
        is(x.state(32767), NOT);
        takes(x, 0, 0, 32);
        is(x.state(32), 1);
        is(x.state(432), 0);
        is(x.state(832), NOT);
        is(x.state(31), NOT);
        is(x.state(33), NOT);
        is(x.state(0), NOT);
        is(x.give(32, 0), 1);
        is(x.state(32), 2);
    }

    private static void p14() {
        MagazineDepot x = with(0, 400, 64);
        takes(x, 0, 0, 32, 432, 1120, 1520, 2208);
        gives(x, 0, 1120);
        is(x.owner(-1), BAD);
        is(x.owner(32768), BAD);
        is(x.owner(MOST), BAD);
        int[][] due = {{0, 1}, {31, 1}, {32, 4}, {431, 4}, {831, 4}, {832, 3}, {1023, 3}, {1024, 1}, {1055, 1}, {1056, 2}, {1119, 2},
            {1120, 5}, {1519, 5}, {1520, 4}, {1919, 4}, {1920, 3}, {2047, 3}, {2608, 6}, {3007, 6}, {3008, 3}, {3071, 3}, {3072, 0},
            {32767, 0}};
        for (int[] of : due) is(x.owner(of[0]), of[1]);
    }

    private static void p15() {
        MagazineDepot x = with(0, 400, 64);
        takes(x, 0, 0, 32, 432, 1120, 1520, 2208);
        gives(x, 0, 1120, 32);
        is(x.bytes(-1), BAD);
        is(x.bytes(7), BAD);
        int[] due = {29 * 1024, 96, 64 + 128, 192 + 128 + 64, 1200, 800, 400};
        int all = 0;
        for (int owner = 0; owner < 7; owner++) {
            is(x.bytes(owner), due[owner]);
            all += x.bytes(owner);
        }
        is(all, 32768);
    }

    private static void p16() {
        MagazineDepot x = with(0, 16, 8);
        is(x.cache(0, 400, 64), 1);
        takes(x, 1, 0, 32, 432, 1120);
        takes(x, 0, 0, 2080);
        int[][] due = {{1, 0, 192, 0, NOT}, {1, 64, 128, 1, 1520}, {0, 0, 0, 61, 2096}};
        for (int page = 0; page < 3; page++) for (int what = 0; what < 5; what++) is(x.page(page, what), due[page][what]);
        is(x.page(3, 0), NOT);
        is(x.page(31, 4), NOT);
        is(x.page(3, 5), BAD);
        is(x.page(0, 5), BAD);
        is(x.page(0, -1), BAD);
        is(x.page(32, 0), BAD);
        is(x.page(-1, 0), BAD);
        colours();
    }

    private static void colours() {
        MagazineDepot x = with(0, 400, 64);
        int[] due = {0, 64, 128, 192, 0, 64};
        for (int i = 0; i < 12; i++) is(x.take(0, 0), i / 2 * 1024 + 32 + due[i / 2] + i % 2 * 400);
        for (int page = 0; page < 6; page++) {
            is(x.page(page, 1), due[page]);
            is(x.page(page, 2), 192 - due[page]);
        }
        is(x.of(0, 13), 128);
    }

    private static void p17() {
        MagazineDepot x = with(0, 16, 8);
        takes(x, 0, 0, 32, 48, 64);
        is(x.give(48, 0), 1);
        is(x.map(0, 0), (1L << 62) - 1 - 7);
        is(x.map(0, 1), 5);
        is(x.map(0, 2), BAD);
        is(x.map(0, -1), BAD);
        is(x.map(1, 0), NOT);
        is(x.map(1, 2), BAD);
        is(x.map(32, 0), BAD);
        is(x.map(-1, 0), BAD);
        for (int i = 3; i < 62; i++) is(x.take(0, 1), 32 + 16 * i);
        is(x.map(0, 0), 0);
        is(x.map(0, 1), (1L << 62) - 1 - 2);
    }

    private static void p18() {
        MagazineDepot x = with(3, 400, 64);
        int[] due = {3, 400, 64, 2, 2, 4, 0, 0, 0, 0, 0, 0, 0, 0, 0, 0};
        for (int what = 0; what < 16; what++) is(x.of(0, what), due[what]);
        is(x.of(0, 16), BAD);
        is(x.of(0, -1), BAD);
        is(x.of(1, 0), BAD);
        is(x.of(-1, 0), BAD);
        is(x.limit(0, 77), 4);
        takes(x, 0, 0, 32, 432, 1120, 1520, 2208);
        gives(x, 0, 32, 432, 1120, 1520, 2208);
        is(x.interval(), 0);
        is(x.interval(), 1);
        takes(x, 0, 1, 32);
        is(x.give(32, 1), 4);
        is(x.drain(0, 1), 1);
        int[] then = {3, 400, 64, 2, 2, 77, 1, 1, 0, 0, 0, 0, 3, 192, 6, 3};
        for (int what = 0; what < 16; what++) is(x.of(0, what), then[what]);
        is(x.reap(0), 1);
        is(x.of(0, 12), 2);
    }

    private static void p19() {
        int[][] due = {{0, 12}, {1, 0}, {2, 5}, {3, 1}, {4, 12}, {5, 36}};
        for (int[] of : due) {
            MagazineDepot x = with(of[0], 80, 8);
            is(x.tally(0), 0);
            takes(x, 0, 0, 32);
            if (of[0] == 0 || of[0] > 3) is(x.write(32, 4 * 16 + 12), 1);
            is(x.give(32, 0), 1);
            is(x.tally(0), 0);
            is(x.drain(0, 0), 1);
            is(x.tally(0), of[1]);
            is(x.tally(1), MagazineDepot.NO);
            is(x.tally(-1), MagazineDepot.NO);
        }
        MagazineDepot x = with(0, 80, 8);
        takes(x, 0, 0, 32);
        is(x.write(32, -1), 1);
        is(x.give(32, 0), 1);
        is(x.drain(0, 0), 1);
        is(x.tally(0), 15);
    }

    private static void p20() {
        MagazineDepot x = with(0, 16, 8);
        takes(x, 0, 0, 32, 48, 64);
        for (int what = 0; what < 4; what++) is(x.magazine(0, 0, what), NOT);
        gives(x, 0, 48, 32, 64);
        int[] due = {1, 64, 2, 32};
        for (int what = 0; what < 4; what++) is(x.magazine(0, 0, what), due[what]);
        for (int what = 0; what < 4; what++) is(x.magazine(0, 1, what), NOT);
        takes(x, 0, 0, 64);
        is(x.magazine(0, 0, 0), 0);
        is(x.magazine(0, 0, 1), NOT);
        is(x.magazine(0, 0, 4), BAD);
        is(x.magazine(0, 0, -1), BAD);
        is(x.magazine(0, 4, 0), BAD);
        is(x.magazine(0, -1, 0), BAD);
        is(x.magazine(1, 0, 0), BAD);
    }

    private static void p21() {
        MagazineDepot far = with(0, 400, 64);
        // From bytes 32, 432, 1120, 1520, 2208, 2608, 3296: LINES 1, 13, 3, 15, 5, 1, 7.
        takes(far, 0, 0, 32, 432, 1120, 1520, 2208, 2608, 3296);
        is(far.lines(0, 0), 6);
        is(far.lines(0, 1), 1);
        is(far.give(32, 0), 1);
        is(far.lines(0, 0), 6);
        is(far.lines(0, 1), 0);
        MagazineDepot x = with(0, 16, 8);
        is(x.lines(0, 0), 0);
        is(x.lines(0, 1), 0);
        takes(x, 0, 0, 32, 48, 64);
        is(x.lines(0, 0), 2);
        is(x.lines(0, 1), 1);
        for (int i = 3; i < 62; i++) is(x.take(0, 0), 32 + 16 * i);
        is(x.lines(0, 0), 16);
        // 62 from byte 32 on: four on each of LINES 1 to 15, two on LINE 0.
        is(x.lines(0, 1), 15 * 6 + 1);
        is(x.give(32, 0), 1);
        is(x.lines(0, 0), 16);
        is(x.lines(0, 1), 14 * 6 + 3 + 1);
        is(x.lines(1, 0), BAD);
        is(x.lines(-1, 0), BAD);
        is(x.lines(0, 2), BAD);
        is(x.lines(0, -1), BAD);
    }

    private static void p22() {
        MagazineDepot x = with(0, 400, 64);
        takes(x, 0, 0, 32, 432, 1120);
        gives(x, 0, 432, 32);
        int[] due = {32, 432, 1520, 2208, 2608, 3296};
        for (int k = 0; k < 6; k++) is(x.ahead(0, 0, 6, k), due[k]);
        is(x.ahead(0, 1, 6, 0), 1520);
        is(x.ahead(0, 0, 40, 39) > 0 ? 1 : 0, 1);
        is(x.ahead(0, 0, 6, 6), BAD);
        is(x.ahead(0, 0, 6, -1), BAD);
        is(x.ahead(0, 0, 0, 0), BAD);
        is(x.ahead(0, 0, 41, 0), BAD);
        is(x.ahead(1, 0, 6, 0), BAD);
        is(x.ahead(0, 4, 6, 0), BAD);
        is(x.ahead(0, -1, 6, 0), BAD);
        is(x.count(6), 1);
        is(x.of(0, 12), 2);
        for (int i = 0; i < 30; i++) is(x.take(0, 1) > 0 ? 1 : 0, 1);
        // Of 64 that there can be 31 are LIVE, 2 in a MAGAZINE of PROCESSOR 0.
        is(x.ahead(0, 1, 40, 29), 31 * 1024 + 32 + 192);
        is(x.ahead(0, 1, 40, 30), 31 * 1024 + 32 + 192 + 400);
        is(x.ahead(0, 1, 40, 31), NOT);
        is(x.ahead(0, 1, 40, 39), NOT);
        is(x.ahead(0, 0, 40, 32), 31 * 1024 + 32 + 192 + 400);
        is(x.ahead(0, 0, 40, 33), NOT);
    }

    private static void p23() {
        MagazineDepot x = with(0, 400, 64);
        is(x.trip(0, 0, 5, 0), 3);
        is(x.trip(0, 0, 5, 1), 5);
        is(x.trip(0, 0, 5, 2), 3);
        is(x.trip(0, 0, 1, 0), 1);
        is(x.count(1), 0);
        is(x.count(2), 32);
        for (int i = 0; i < 60; i++) is(x.take(0, 1) >= 0 ? 1 : 0, 1);
        is(x.trip(0, 0, 40, 1), 4);
        is(x.trip(0, 0, 40, 0), 2);
        gives(x, 1, 32, 432, 1120, 1520, 2208);
        is(x.trip(0, 2, 2, 0), 1);
        is(x.trip(0, 2, 2, 2), 0);
        is(x.trip(0, 2, 3, 0), 2);
        is(x.trip(0, 2, 3, 2), 1);
        is(x.trip(0, 0, 0, 0), VOID);
        is(x.trip(0, 0, 41, 0), VOID);
        is(x.trip(1, 0, 5, 0), VOID);
        is(x.trip(0, 4, 5, 0), VOID);
        is(x.trip(0, 0, 5, 3), VOID);
        MagazineDepot y = busy();
        String before = told(y);
        is(y.drawn(3, 400, 3) > 0 ? 1 : 0, 1);
        is(y.trip(0, 0, 3, 1), 3);
        is(y.trip(0, 0, 40, 1), 40);
        is(y.ahead(0, 1, 40, 39) > 0 ? 1 : 0, 1);
        is(told(y), before);
        is(x.trip(0, 0, 5, -1), VOID);
    }

    private static void p24() {
        MagazineDepot x = new MagazineDepot();
        for (int what = 0; what < 4; what++) is(x.drawn(1, 400, what), 0);
        is(x.drawn(1, 0, 0), BAD);
        is(x.drawn(1, 401, 0), BAD);
        is(x.drawn(1, 5, 4), BAD);
        is(x.drawn(1, 5, -1), BAD);
        is(x.cache(0, 400, 64), 0);
        int z = 0, live = 0;
        for (int n = 1; n <= 20; n++) {
            z = z * 1103515245 + 12345;
            int act = (z >>> 16) % 5;
            live += act >= 3 ? 1 : act > 0 && live > 0 ? -1 : 0;
            is(x.drawn(0, n, 3), live);
        }
        for (int i = 0; i < 64; i++) is(x.take(0, 0) > 0 ? 1 : 0, 1);
        int full = 0;
        z = 7;
        for (int n = 1; n <= 400; n++) {
            z = z * 1103515245 + 12345;
            full += (z >>> 16) % 5 >= 3 ? 1 : 0;
        }
        is(x.drawn(7, 400, 2), full);
        is(x.drawn(7, 400, 3), 64);
        is(x.drawn(7, 400, 0), 0);
        is(x.drawn(7, 400, 1), 0);
        is(x.count(4), 0);
        drawnVisits();
    }

    /** With ROUNDS 2 a GIVE to no LOADED is the first VISIT, and a MAGAZINE is MADE. */
    private static void drawnVisits() {
        MagazineDepot x = with(0, 16, 8);
        int seed = 0;
        for (boolean found = false; !found; seed += found ? 0 : 1) {
            int z1 = seed * 1103515245 + 12345;
            int z2 = z1 * 1103515245 + 12345;
            found = (z1 >>> 16) % 5 >= 3 && (z2 >>> 16) % 5 == 1;
        }
        is(x.drawn(seed, 1, 3), 1);
        is(x.drawn(seed, 1, 0), 0);
        is(x.drawn(seed, 2, 0), 1);
        is(x.drawn(seed, 2, 1), 1);
        is(x.drawn(seed, 2, 2), 0);
        is(x.drawn(seed, 2, 3), 0);
        is(x.count(1), 0);
        MagazineDepot y = threeFull();
        is(y.interval(), 0);
        is(y.drawn(seedOf(0, -1), 1, 0), 0);
        is(y.drawn(seedOf(0, -1), 1, 1), 2);
        is(y.drawn(seedOf(3, -1), 1, 3), 2);
        // Nothing was taken in it: nothing is given back, whatever the draws ahead of it have taken.
        is(y.drawn(5, 400, 3) > 1 ? 1 : 0, 1);
        is(y.drawn(seedOf(1, 1), 2, 0), 0);
        is(y.drawn(seedOf(2, 3), 2, 3), 2);
        drawnCaches();
    }

    /** No PAGE is free: a TAKE of CACHE 0 finds the last FREE one, one of CACHE 1 is FULL. */
    private static void drawnCaches() {
        MagazineDepot x = with(0, 400, 64);
        is(x.cache(0, 400, 64), 1);
        is(x.cache(0, 400, 64), 2);
        for (int i = 0; i < 63; i++) is(x.take(0, 0) > 0 ? 1 : 0, 1);
        for (int seed = -20; seed < 60; seed++) {
            int z = seed * 1103515245 + 12345;
            boolean isTake = (z >>> 16) % 5 >= 3;
            is(x.drawn(seed, 1, 2), isTake && (z >>> 10) % 3 != 0 ? 1 : 0);
        }
    }

    private static void p25() {
        MagazineDepot x = new MagazineDepot();
        is(x.feed(-1), BAD);
        is(x.feed(256), BAD);
        is(x.feed(0), 1);
        is(x.feed(255), 2);
        for (int i = 3; i <= 100; i++) is(x.feed('a'), i);
        is(x.feed('a'), FULL);
        is(x.feed(256), BAD);
        is(x.count(3), 100);
        is(x.trace(), -100);
        is(x.feed('a'), 1);
    }

    private static void p26() {
        String[] right = {"!", "a=0@0", "z=3@3", "~a@3", "b:0", "b:999", "0(!)", "999(!)", "007(!)", "?3(!;!)", "!;!", "1(2(3(4(5(!)))))",
            "?0(1(?0(1(?0(!)))));!", "1(!);1(!)", "1(1(!);a:12)"};
        for (String text : right) is(tell(new MagazineDepot(), text), 1);
        Object[][] faults = {{"", 0}, {"a", 1}, {"A=0@0", 0}, {"`", 0}, {"{", 0}, {"a=4@0", 2}, {"a=0@4", 4}, {"a=0@", 4}, {"a=0", 3},
            {"a=00@0", 3}, {"a =0@0", 1}, {" !", 0}, {"~", 1}, {"~0@0", 1}, {"~a=0", 2}, {"~a@4", 3}, {"a:", 2}, {"a:x", 2},
            {"a:1000", 5}, {"a:10!", 4}, {"!;", 2}, {"!!", 1}, {";", 0}, {"1", 1}, {"1!", 1}, {"1000(!)", 3}, {"1()", 2}, {"1(", 2},
            {"1(!", 3}, {"1(!;)", 4}, {"1(!))", 4}, {")", 0}, {"!)", 1}, {"?", 1}, {"?4(!)", 1}, {"?00(!)", 2}, {"?0!", 2}, {"?0()", 3},
            {"1(1(1(1(1(1(!))))))", 11}, {"1(1(1(1(1(?0(!))))))", 12}, {"1(1(1(1(1(999", 13}, {"?0(?0(?0(?0(?0(0(!", 16},
            {"1(!);1(!)!", 9}, {"!;a=0@0;~a@0;\u00e9", 13}};
        for (Object[] of : faults) {
            MagazineDepot y = new MagazineDepot();
            is(tell(y, (String) of[0]), -100 - (Integer) of[1]);
            is(y.count(3), 0);
            is(y.run(), STATE);
        }
        MagazineDepot x = new MagazineDepot();
        is(tell(x, "!;!"), 1);
        is(tell(x, "!!"), -101);
        is(x.run(), 2);
        StringBuilder hundred = new StringBuilder("a:0");
        while (hundred.length() < 99) hundred.append(";!");
        is(tell(x, hundred + ";"), -200);
        is(tell(x, "a:11" + hundred.substring(3)), 1);
    }

    private static void p27() {
        MagazineDepot x = with(1, 400, 64);
        is(x.run(), STATE);
        is(tell(x, "a=0@0;a:5;!"), 1);
        is(x.run(), 3);
        is(x.names(0), 32);
        is(x.word(32), 5);
        is(x.count(4), 1);
        is(tell(x, "a:0;~a@2;b=0@2"), 1);
        is(x.run(), 3);
        is(x.names(0), NOT);
        is(x.names(1), 32);
        is(x.word(32), 0);
        is(tell(x, "0(!);3(!;0(!));!"), 1);
        // 1 for 0( ), 1 for 3( ), each of 3 passes: itself, ! and 0( ), then !.
        is(x.run(), 1 + 1 + 3 * 3 + 1);
        is(x.count(4), 5);
        // The 400th STEP is the begin of the 200th pass.
        is(tell(x, "999(!)"), 1);
        is(x.run(), 400);
        is(x.why(), -6);
        is(x.count(4), 5 + 199);
        is(tell(x, "133(!;!);!"), 1);
        is(x.run(), 400);
        is(x.why(), -6);
        is(tell(x, "133(!;!)"), 1);
        is(x.run(), 400);
        is(x.why(), 0);
        conditions();
    }

    private static void conditions() {
        MagazineDepot x = with(0, 16, 8);
        is(tell(x, "?0(!)"), 1);
        is(x.run(), 1);
        is(x.count(4), 0);
        is(tell(x, "?1(!)"), 1);
        is(x.run(), 1);
        is(x.why(), -1);
        takes(x, 0, 0, 32, 48, 64, 80, 96);
        gives(x, 0, 32, 48, 64, 80, 96);
        is(tell(x, "2(?0(!;a=0@1);b=0@1)"), 1);
        // N, pass, ?, !, a, b, pass, ?, b.
        is(x.run(), 9);
        is(x.why(), 0);
        is(x.names(0), 48);
        is(x.names(1), 112);
        // A RUN that stopped in a pass leaves no pass to the next one.
        MagazineDepot y = threeFull();
        is(tell(y, "9(~q@0)"), 1);
        is(y.run(), 3);
        is(tell(y, "?0(!)"), 1);
        is(y.run(), 2);
        is(y.count(4), 1);
        is(tell(y, "2(!;0(~q@0))"), 1);
        is(y.run(), 7);
        is(y.count(4), 3);
    }

    private static void p28() {
        MagazineDepot x = with(4, 400, 64);
        is(x.why(), 0);
        is(tell(x, "a=1@0"), 1);
        is(x.run(), 1);
        is(x.why(), -1);
        is(tell(x, "!;~a@0;!"), 1);
        is(x.run(), 2);
        is(x.why(), -11);
        is(x.count(4), 1);
        is(tell(x, "a:1"), 1);
        is(x.run(), 1);
        is(x.why(), -11);
        is(tell(x, "a=0@0;a:1;~a@0;!"), 1);
        is(x.run(), 3);
        is(x.why(), STATE);
        is(x.names(0), 32);
        is(x.letGo(32), 1);
        is(x.give(32, 0), 1);
        is(tell(x, "~a@0"), 1);
        is(x.why(), STATE);
        is(x.run(), 1);
        is(x.why(), -1);
        is(tell(x, "a:7"), 1);
        is(x.run(), 1);
        is(x.why(), -1);
        is(x.word(32), 0);
        is(tell(x, "99(b=0@1)"), 1);
        is(x.dry(1), FULL);
        is(x.why(), -1);
        is(x.run(), 1 + 2 * 64);
        is(x.why(), FULL);
        is(x.names(1), 31 * 1024 + 32 + 192 + 400);
        is(tell(x, "!"), 1);
        is(x.run(), 1);
        is(x.why(), 0);
    }

    private static void p29() {
        MagazineDepot x = with(0, 400, 64);
        is(x.dry(0), VOID);
        is(tell(x, "a=0@0;b=0@0;c=0@0;~c@0;~b@0;~a@0;!;d=0@1"), 1);
        is(x.dry(0), 8);
        is(x.dry(1), 0);
        is(x.dry(2), 2);
        is(x.dry(3), 1);
        is(x.dry(4), VOID);
        is(x.dry(-1), VOID);
        is(x.count(4), 0);
        is(x.count(2), 32);
        is(x.names(3), NOT);
        takes(x, 0, 0, 32);
        is(x.dry(3), 2);
        is(tell(x, "~z@0"), 1);
        is(x.dry(0), 1);
        is(x.dry(1), -11);
        is(x.why(), 0);
        MagazineDepot y = with(1, 16, 8);
        is(tell(y, "a=0@0;a:5;~a@0;!"), 1);
        is(y.dry(0), 3);
        is(y.dry(1), STATE);
        is(y.dry(3), 1);
        is(y.names(0), NOT);
        // The VISITS ahead of it in the INTERVAL, 5, are more than LIMIT or not.
        MagazineDepot z = threeFull();
        is(tell(z, "!;a=0@1"), 1);
        is(z.limit(0, 4), 99);
        is(z.dry(2), 0);
        is(z.limit(0, 5), 4);
        is(z.dry(2), 1);
    }

    private static void p30() {
        MagazineDepot x = with(0, 16, 8);
        is(x.tuned(0), STATE);
        is(x.tuned(2), BAD);
        is(tell(x, "a=0@0;b=0@0;~a@0;~b@0"), 1);
        is(x.tuned(0), 2);
        is(x.tuned(1), 1);
        is(x.tuned(2), BAD);
        is(x.tuned(-1), BAD);
        is(tell(x, "a=0@0;b=0@0;c=0@0;d=0@0;e=0@0;~a@0;~b@0;~c@0;~d@0;~e@0"), 1);
        is(x.tuned(0), 5);
        is(x.tuned(1), 1);
        is(tell(x, "a=0@0;b=0@0;c=0@0;d=0@0;e=0@0;f=0@0;g=0@0;h=0@0;~a@0;~b@0;~c@0;~d@0;~e@0;~f@0;~g@0;~h@0"), 1);
        is(x.tuned(0), 8);
        is(x.tuned(1), 1);
        is(tell(x, "!"), 1);
        is(x.tuned(0), 1);
        is(x.tuned(1), 0);
        is(x.of(0, 4), 2);
        // MAGAZINES that are there now do not count: they are EMPTIED and UNMADE ahead of such a RUN.
        takes(x, 0, 0, 32);
        gives(x, 0, 32);
        is(tell(x, "a=0@0;~a@0"), 1);
        is(x.dry(2), 0);
        is(x.tuned(0), 1);
        is(x.tuned(1), 1);
        is(x.count(1), 1);
        // LEAST FULL is what there is then, none: what the RUN brings stays when the INTERVAL ends.
        MagazineDepot y = threeFull();
        is(y.interval(), 0);
        is(y.of(0, 10), 3);
        is(tell(y, "a=0@0;b=0@0;c=0@0;d=0@0;~a@0;~b@0;~c@0;~d@0;!;a=0@1;b=0@1"), 1);
        is(y.tuned(0), 4);
        is(y.tuned(1), 1);
        leastFullIsNone();
        MagazineDepot z = busy();
        is(tell(z, "a=0@0;b=1@1;~a@2;!;~b@3"), 1);
        String before = told(z);
        is(z.tuned(0), 1);
        is(z.dry(0), 5);
        is(told(z), before);
    }

    /** As above, by a RUN of which the best r has a FULL one as the INTERVAL ends: 17 are given. */
    private static void leastFullIsNone() {
        MagazineDepot x = with(0, 16, 8);
        is(x.limit(0, 99), 4);
        is(tell(x, "a=0@1;b=0@1;c=0@1;d=0@1;e=0@1;f=0@1;g=0@1;h=0@1;i=0@1"), 1);
        is(x.run(), 9);
        is(tell(x, "j=0@1;k=0@1;l=0@1;m=0@1;n=0@1;o=0@1;p=0@1;q=0@1"), 1);
        is(x.run(), 8);
        for (int i = 17; i < 27; i++) is(x.take(0, 2), 32 + 16 * i);
        for (int i = 17; i < 27; i++) gives(x, 2, 32 + 16 * i);
        is(x.interval(), 0);
        is(x.of(0, 10), 3);
        StringBuilder text = new StringBuilder();
        for (char variable = 'a'; variable <= 'q'; variable++) text.append('~').append(variable).append("@0;");
        is(tell(x, text + "!;r=0@1"), 1);
        is(x.tuned(0), 6);
        is(x.tuned(1), 4);
    }

    private static void p31() {
        MagazineDepot x = with(0, 400, 64);
        is(x.names(-1), BAD);
        is(x.names(26), BAD);
        for (int v = 0; v < 26; v++) is(x.names(v), NOT);
        is(tell(x, "a=0@0;z=0@0;a=0@0"), 1);
        is(x.run(), 3);
        is(x.names(0), 1120);
        is(x.names(25), 432);
        is(x.give(432, 0), 1);
        is(x.names(25), 432);
        is(x.count(5), 2);
    }

    private static void p32() {
        MagazineDepot x = new MagazineDepot();
        is(x.image(), 0);
        is(x.cache(0, 400, 64), 0);
        is(x.image(), 1);
        is(x.cache(0, 16, 8), 1);
        is(x.image(), 2);
        is(x.back(), 2);
    }

    private static void p33() {
        MagazineDepot x = threeFull();
        is(x.back(), STATE);
        is(x.interval(), 0);
        is(tell(x, "a=0@2;~b@0"), 1);
        is(x.image(), 1);
        is(x.write(192, 1234), 1);
        is(x.limit(0, 5), 99);
        is(x.run(), 2);
        is(x.bin(0, 2), 1);
        is(x.lay(0, 1, 112), 1);
        is(x.cache(5, 400, 8), 1);
        is(x.take(1, 0), 1056);
        is(x.feed('!'), 1);
        is(x.interval(), 2);
        is(x.drain(0, 0), 4);
        is(x.back(), 1);
        is(x.count(0), 1);
        is(x.take(1, 0), BAD);
        is(x.state(1056), NOT);
        is(x.word(192), 192);
        is(x.of(0, 5), 99);
        is(x.of(0, 8), 3);
        is(x.of(0, 10), 3);
        is(x.count(1), 5);
        is(x.count(3), 1);
        is(x.count(4), 1);
        is(x.count(5), 1);
        is(x.names(0), 112);
        is(x.state(112), 2);
        is(x.why(), -11);
        is(x.at(0, 1), 112);
        is(x.take(0, 1), 112);
        is(x.back(), 1);
        is(x.state(112), 2);
        is(x.dry(0), 2);
        is(x.cache(2, 16, 8), 1);
        is(x.of(1, 14), 0);
        is(x.tally(1), 0);
        is(x.magazine(1, 0, 0), NOT);
        MagazineDepot y = busy();
        String before = told(y);
        is(y.image(), 3);
        is(y.limit(1, 9), 4);
        takes(y, 0, 3, 208);
        is(y.drain(0, 1), 1);
        for (int i = 0; i < 5; i++) is(y.interval() >= 0 ? 1 : 0, 1);
        is(y.reap(1), 1);
        is(y.back(), 3);
        is(told(y), before);
    }

    private static void p34() {
        MagazineDepot x = with(0, 80, 8);
        is(x.bin(-1, 3), BAD);
        is(x.bin(4, 3), BAD);
        is(x.bin(4, -1), BAD);
        is(x.bin(0, 41), BAD);
        is(x.bin(0, MOST), BAD);
        is(x.bin(0, -1), -14);
        is(x.bin(0, LEAST), -14);
        is(x.at(0, 0), -11);
        is(x.bin(0, 40), 1);
        is(x.at(0, 39), -11);
        is(x.at(0, 40), -13);
        takes(x, 0, 0, 32);
        is(x.lay(0, 0, 32), 1);
        is(x.bin(0, -1), -14);
        is(x.at(0, 0), 32);
        is(x.bin(0, 1), 1);
        is(x.at(0, 0), -11);
        is(x.at(0, 1), -13);
        is(x.bin(3, 0), 1);
        is(x.at(3, 0), -13);
    }

    private static void p35() {
        MagazineDepot x = with(0, 80, 8);
        takes(x, 0, 0, 32, 112);
        is(x.give(112, 0), 1);
        is(x.lay(0, 0, 32), -11);
        is(x.lay(0, 0, 33), BAD);
        is(x.lay(4, 0, 32), BAD);
        is(x.lay(-1, 0, 32), BAD);
        is(x.bin(0, 2), 1);
        is(x.lay(0, 0, 112), BAD);
        is(x.lay(0, 5, 112), BAD);
        is(x.lay(0, 0, 192), BAD);
        is(x.lay(0, 0, -2), BAD);
        is(x.lay(0, 2, 32), -13);
        is(x.lay(0, -1, 32), -13);
        is(x.lay(0, -1, -1), -13);
        is(x.lay(0, MOST, -1), -13);
        is(x.lay(0, 1, 32), 1);
        is(x.at(0, 1), 32);
        is(x.lay(0, 1, -1), 1);
        is(x.at(0, 1), -11);
    }

    private static void p36() {
        MagazineDepot x = with(0, 80, 8);
        takes(x, 0, 0, 32);
        is(x.at(-1, 0), BAD);
        is(x.at(4, 0), BAD);
        is(x.at(3, -5), -11);
        is(x.bin(3, 2), 1);
        is(x.at(3, -1), -13);
        is(x.at(3, 2), -13);
        is(x.at(3, LEAST), -13);
        is(x.at(3, 0), -11);
        is(x.lay(3, 0, 32), 1);
        is(x.at(3, 0), 32);
        is(x.give(32, 0), 1);
        is(x.drain(0, 0), 1);
        is(x.reap(0), 1);
        is(x.at(3, 0), 32);
    }

    private static void p37() {
        MagazineDepot x = with(4, 80, 8);
        takes(x, 0, 0, 32, 112, 192, 272, 352);
        is(x.pour(4, 0, 1, 0), BAD);
        is(x.pour(-1, 0, 1, 0), BAD);
        is(x.pour(0, 0, 41, 0), BAD);
        is(x.pour(0, 0, -1, 0), BAD);
        is(x.pour(0, 0, 1, 4), BAD);
        is(x.pour(0, 0, 1, -1), BAD);
        is(x.pour(0, 0, 1, 0), 0);
        is(x.bin(0, 5), 1);
        for (int i = 0; i < 5; i++) is(x.lay(0, i, 32 + 80 * i), 1);
        is(x.pour(0, -1, 3, 0), 0);
        is(x.pour(0, 5, 3, 0), 0);
        is(x.pour(0, MOST, 3, 0), 0);
        is(x.pour(0, 0, 0, 0), 0);
        is(x.pour(0, 3, 40, 2), 2);
        is(x.magazine(0, 2, 0), 2);
        is(x.magazine(0, 2, 1), 352);
        is(x.at(0, 3), -11);
        is(x.at(0, 4), -11);
        is(x.hold(112), 1);
        is(x.pour(0, 0, 3, 0), 1);
        is(x.at(0, 0), -11);
        is(x.at(0, 1), 112);
        is(x.letGo(112), 1);
        is(x.lay(0, 2, 112), 1);
        is(x.pour(0, 1, 2, 0), 1);
        is(x.at(0, 2), 112);
        is(x.count(6), 1);
        is(x.count(7), 4);
    }

    private static void p38() {
        MagazineDepot x = with(0, 80, 8);
        takes(x, 0, 0, 32, 112, 192, 272);
        is(x.shift(0, 0, 4, 0, 1), BAD);
        is(x.shift(-1, 0, 0, 0, 1), BAD);
        is(x.shift(0, 0, 1, 0, 1), -11);
        is(x.bin(0, 5), 1);
        is(x.shift(0, 0, 1, 0, -1), -11);
        is(x.shift(1, 0, 0, 0, 1), -11);
        is(x.bin(1, 3), 1);
        for (int i = 0; i < 4; i++) is(x.lay(0, i, 32 + 80 * i), 1);
        for (int n : new int[] {-1, LEAST, 4, MOST}) is(x.shift(0, 0, 1, 0, n), -13);
        for (int i : new int[] {-1, LEAST, 4, 5, MOST}) is(x.shift(0, i, 1, 0, 2), -13);
        for (int j : new int[] {-1, LEAST, 2, 3, MOST}) is(x.shift(0, 0, 1, j, 2), -13);
        is(x.shift(0, 5, 1, 3, 0), 0);
        is(x.shift(0, -1, 1, 0, 0), -13);
        is(x.shift(0, 0, 0, 1, 4), 4);
        int[] then = {32, 32, 112, 192, 272};
        for (int i = 0; i < 5; i++) is(x.at(0, i), then[i]);
        is(x.shift(0, 1, 0, 0, 4), 4);
        int[] back = {32, 112, 192, 272, 272};
        for (int i = 0; i < 5; i++) is(x.at(0, i), back[i]);
        is(x.lay(0, 2, -1), 1);
        is(x.lay(1, 2, 32), 1);
        is(x.shift(0, 1, 1, 1, 2), 2);
        is(x.at(1, 0), -11);
        is(x.at(1, 1), 112);
        is(x.at(1, 2), -11);
        is(x.at(0, 1), 112);
    }

    private static void p39() {
        MagazineDepot x = threeFull();
        is(x.cache(0, 400, 64), 1);
        is(tell(x, "!;a=0@1;b=1@0;a=1@0"), 1);
        is(x.run(), 4);
        is(x.feed('x'), 1);
        is(x.feed('y'), 2);
        int[] due = {2, 5, 30, 2, 1, 2, 4, 9};
        for (int what = 0; what < 8; what++) is(x.count(what), due[what]);
        is(x.count(8), BAD);
        is(x.count(-1), BAD);
        is(x.count(LEAST), BAD);
    }
}
