/** What tests do again and again with a keeper: wheels felt, all that can be asked. */
final class Look {
    private static final int[] RIGHT = {2, 3, 1, 0}, LEFT = {1, 3, 2, 0};

    private Look() {
    }

    /** One axle is felt going right over a head, without one being there. */
    static void feltRight(AxleKeeper x, int h) {
        for (int v : RIGHT) x.feel(h, v);
    }

    static void feltLeft(AxleKeeper x, int h) {
        for (int v : LEFT) x.feel(h, v);
    }

    /** From STATE 0 the FEELERS are felt till the wheel is so many places to the right (-3 .. 3). */
    static void wheelAt(AxleKeeper x, int h, int places) {
        for (int i = 0; i < Math.abs(places); i++) x.feel(h, places > 0 ? RIGHT[i] : LEFT[i]);
    }

    static AxleKeeper row(int n) {
        AxleKeeper x = new AxleKeeper();
        x.line(n, false);
        return x;
    }

    static AxleKeeper ring(int n) {
        AxleKeeper x = new AxleKeeper();
        x.line(n, true);
        return x;
    }

    /**
     * A keeper of which every part is other than at first: a row of 4 with a section TAKEN, one DISTURBED, one in SWEEP; head 3
     * in STATE 2, head 4 FAULTY; IMAGE 0 kept, IMAGE 1 not, 12 deeds behind it and as many more as told; three entries in THE BOOK.
     */
    static AxleKeeper busy(int more) {
        AxleKeeper x = row(4);
        x.seed(77);
        x.go(0, 0, 3);
        x.tick(0);
        x.keep(0);
        for (int i = 0; i < more; i++) x.miss(0, 0, 1);
        x.go(0, 0, 2);
        feltRight(x, 2);
        x.feel(4, 3);
        x.tick(1);
        x.reset(3);
        x.feel(3, 2);
        x.miss(1, 0, 3);
        x.miss(2, 0, 1);
        x.miss(0, 0, 1);
        x.write(0, 1);
        x.write(3, 3);
        x.write(2, 0);
        return x;
    }

    static void ticks(AxleKeeper x, int lost, int times) {
        for (int i = 0; i < times; i++) x.tick(lost);
    }

    static void calls(Due due, String when, AxleKeeper x, int... want) {
        for (int s = 0; s < want.length; s++) due.is(when + ": call of " + s, x.section(s, 0), want[s]);
    }

    static void sums(Due due, String when, AxleKeeper x, int... want) {
        for (int s = 0; s < want.length; s++) due.is(when + ": sum of " + s, x.section(s, 1), 1000 + want[s]);
    }

    static int seedOf(AxleKeeper x) {
        int seed = x.seed(0);
        x.seed(seed);
        return seed;
    }

    /** Two keepers answer the same to all that can be asked. */
    static void same(Due due, String when, AxleKeeper x, AxleKeeper y) {
        for (int what = 0; what <= 16; what++) due.is(when + ": told(" + what + ")", x.told(what), y.told(what));
        int sections = y.told(0);
        int heads = y.told(1);
        for (int s = 0; s < sections; s++) {
            for (int what = 0; what <= 6; what++) due.is(when + ": section(" + s + ", " + what + ")", x.section(s, what), y.section(s, what));
        }
        for (int h = 0; h < heads; h++) {
            for (int what = 0; what <= 9; what++) due.is(when + ": head(" + h + ", " + what + ")", x.head(h, what), y.head(h, what));
        }
        due.is(when + ": seed", seedOf(x), seedOf(y));
    }
}
