/** What Promises and Edges share: how an answer is compared, and objects that are in some state already. */
abstract class Check {
    static final int BAD = -1, NOT = -2, FULL = -3, STATE = -5, VOID = -2000000000;
    static final int LEAST = Integer.MIN_VALUE, MOST = Integer.MAX_VALUE;
    static int promise;
    static int row;
    static int wrong;

    static void is(long got, long due) {
        row++;
        if (got == due) return;
        wrong++;
        StringBuilder lines = new StringBuilder();
        for (StackTraceElement at : new Throwable().getStackTrace()) {
            if (at.getMethodName().equals("is") || at.getMethodName().equals("runAll")) continue;
            lines.append(' ').append(at.getMethodName()).append(':').append(at.getLineNumber());
            if (at.getMethodName().matches("p\\d+")) break;
        }
        System.out.println("promise " + promise + ", line" + lines + ": answered " + got + ", due is " + due);
    }

    static void is(String got, String due) {
        row++;
        if (got.equals(due)) return;
        wrong++;
        System.out.println("promise " + promise + ": what is told differs\n" + got + "\n--- due is\n" + due);
    }

    /** Runs the tests of the promises 1, 2, .. and ends the program. */
    static void runAll(Runnable... promises) {
        for (Runnable one : promises) {
            promise++;
            one.run();
        }
        System.out.println(wrong == 0 ? "all " + row + " answers are as due" : wrong + " answers are not as due");
        if (wrong != 0) System.exit(1);
    }

    /** Feeds a TEXT and makes it the TRACE: what trace() answers. */
    static int tell(MagazineDepot x, String text) {
        for (int i = 0; i < text.length(); i++) is(x.feed(text.charAt(i)), i + 1);
        return x.trace();
    }

    static MagazineDepot with(int kind, int size, int step) {
        MagazineDepot x = new MagazineDepot();
        is(x.cache(kind, size, step), 0);
        return x;
    }

    static void takes(MagazineDepot x, int cache, int processor, int... due) {
        for (int address : due) is(x.take(cache, processor), address);
    }

    static void gives(MagazineDepot x, int processor, int... addresses) {
        for (int address : addresses) {
            is(x.give(address, processor) >= 0 ? 1 : 0, 1);
            is(x.state(address) == 1 ? 1 : 0, 0);
        }
    }

    /** Ten BUFFERS of size 16 given by processor 0: three FULL ones, PREVIOUS, LOADED; one more is LIVE, 192. */
    static MagazineDepot threeFull() {
        MagazineDepot x = with(0, 16, 8);
        is(x.limit(0, 99), 4);
        takes(x, 0, 0, 32, 48, 64, 80, 96, 112, 128, 144, 160, 176, 192);
        for (int i = 0; i < 10; i++) is(x.give(32 + 16 * i, 0), i + 1);
        is(x.of(0, 8), 3);
        return x;
    }

    /** Three CACHES, an EMPTY MAGAZINE, BUFFERS that ended, an INTERVAL that ended, one CACHE that is QUIET. */
    static MagazineDepot busy() {
        MagazineDepot x = threeFull();
        is(x.cache(2, 400, 64), 1);
        takes(x, 1, 3, 1056, 1456, 2144);
        gives(x, 3, 1056);
        is(x.drain(1, 3), 1);
        gives(x, 3, 1456);
        takes(x, 0, 1, 112, 96, 80, 64, 48);
        is(x.of(0, 9), 1);
        is(x.cache(3, 64, 8), 2);
        is(x.interval(), 0);
        is(x.of(0, 11), 1);
        is(x.of(2, 7), 1);
        return x;
    }

    /**
     * All that the calls of 'what there is' tell of the CACHES, MAGAZINES, PAGES and numbers, in some 200 calls:
     * an object has 512 in all.
     */
    static String told(MagazineDepot x) {
        StringBuilder out = new StringBuilder();
        for (int what = 0; what < 8; what++) out.append(x.count(what)).append(' ');
        for (int c = 0; c < x.count(0); c++) {
            for (int what = 0; what < 16; what++) out.append(x.of(c, what)).append(' ');
            for (int i = 0; i < 16; i++) out.append(x.magazine(c, i / 4, i % 4)).append(' ');
            out.append(x.tally(c)).append('\n');
        }
        for (int page = 0; page < 32; page++) {
            int colour = x.page(page, 1);
            out.append(colour).append(' ');
            if (colour != NOT) out.append(x.page(page, 0)).append(' ').append(x.map(page, 0)).append(' ').append(x.map(page, 1)).append('\n');
        }
        return out.toString();
    }
}
