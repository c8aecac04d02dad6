import java.lang.management.ManagementFactory;

/** What a run makes: an object is made once, and no call makes anything more; no call throws, whatever it is told. */
public final class Room {
    private static final int[] ODD = {Integer.MIN_VALUE, -1000000, -2, -1, 0, 1, 3, 4, 5, 25, 26, 31, 32, 39, 40, 41, 48, 62, 99, 100, 255,
        256, 400, 401, 1023, 32767, 32768, Integer.MAX_VALUE};
    private static final com.sun.management.ThreadMXBean THREADS =
        (com.sun.management.ThreadMXBean) ManagementFactory.getThreadMXBean();
    private static boolean wrong;

    private static long madeBytes() {
        return THREADS.getThreadAllocatedBytes(Thread.currentThread().getId());
    }

    private static void atMost(String what, long bytes, long most) {
        if (bytes > most) {
            wrong = true;
            System.out.println(what + " takes " + bytes + " bytes, more than " + most);
        }
    }

    public static void main(String[] args) {
        dear(new MagazineDepot());
        long before = madeBytes();
        MagazineDepot x = new MagazineDepot();
        atMost("an object", madeBytes() - before, 100_000);
        before = madeBytes();
        dear(x);
        atMost("a run of dear calls", madeBytes() - before, 2_000);
        odd();
        System.out.println(wrong ? "too much is made" : "no call makes anything");
        if (wrong) System.exit(1);
    }

    private static void dear(MagazineDepot x) {
        x.cache(5, 16, 8);
        x.cache(2, 16, 8);
        String text = "99(a=0@0;b=1@1;~a@2;b=1@3;!;?0(~b@3))";
        for (int i = 0; i < text.length(); i++) x.feed(text.charAt(i));
        x.trace();
        x.bin(0, 40);
        for (int i = 0; i < 60; i++) {
            x.run();
            x.tuned(0);
            x.dry(2);
            x.drawn(i, 400, 0);
            x.trip(0, 0, 40, 2);
            x.image();
            x.back();
            x.lines(0, 1);
        }
    }

    /** Each call with each odd number in each place, on an object that has all and on a new one. */
    private static void odd() {
        for (int full = 0; full < 2; full++) {
            MagazineDepot x = new MagazineDepot();
            if (full == 1) {
                dear(x);
                for (int b = 0; b < 4; b++) x.bin(b, 40);
            }
            for (int a : ODD) {
                oneNumber(x, a);
                for (int b : ODD) {
                    twoNumbers(x, a, b);
                    for (int c : ODD) moreNumbers(x, a, b, c);
                }
            }
            x.interval();
            x.run();
            x.trace();
            x.why();
            x.back();
            x.image();
        }
    }

    private static void oneNumber(MagazineDepot x, int a) {
        x.word(a);
        x.hold(a);
        x.letGo(a);
        x.reap(a);
        x.state(a);
        x.owner(a);
        x.bytes(a);
        x.tally(a);
        x.feed(a);
        x.dry(a);
        x.tuned(a);
        x.names(a);
        x.count(a);
    }

    private static void twoNumbers(MagazineDepot x, int a, int b) {
        x.limit(a, b);
        x.take(a, b);
        x.give(a, b);
        x.write(a, b);
        x.drain(a, b);
        x.page(a, b);
        x.map(a, b);
        x.of(a, b);
        x.lines(a, b);
        x.bin(a, b);
        x.at(a, b);
    }

    private static void moreNumbers(MagazineDepot x, int a, int b, int c) {
        x.cache(a, b, c);
        x.magazine(a, b, c);
        x.drawn(a, b, c);
        x.lay(a, b, c);
        for (int d : ODD) {
            x.ahead(a, b, c, d);
            x.trip(a, b, c, d);
            x.pour(a, b, c, d);
            x.shift(a, b, c, d, d);
            x.shift(a, b, a, c, d);
            x.shift(1, a, 2, b, c);
        }
    }
}
