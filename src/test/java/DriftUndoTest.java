/** Promises 12, 13 and 17: drift, undo, seed. */
public final class DriftUndoTest {
    private static final Due due = new Due("DriftUndoTest");
    private static long seed;

    public static void main(String[] args) {
        seeds();
        drawsByHand();
        driftIsItsDeeds(3, false, 1);
        driftIsItsDeeds(6, false, 77);
        driftIsItsDeeds(5, true, 2147483647);
        driftWithBadHeads();
        refusals();
        undoesEachDeed();
        undoKeepsSixteen();
        undoOfALine();
        undoOfDrifts();
        due.end();
    }

    private static int draw(int n) {
        seed = (seed * 1103515245L + 12345L) % (1L << 31);
        return (int) (seed / 65536 % n);
    }

    private static void seeds() {
        AxleKeeper x = new AxleKeeper();
        due.is("seed(5)", x.seed(5), 0);
        due.is("seed(-1)", x.seed(-1), AxleKeeper.OUTSIDE);
        due.is("seed(MIN)", x.seed(Integer.MIN_VALUE), AxleKeeper.OUTSIDE);
        due.is("seed(MAX)", x.seed(Integer.MAX_VALUE), 5);
        due.is("seed(0)", x.seed(0), Integer.MAX_VALUE);
        due.is("no deed", x.told(16), 0);
        due.is("seed(8)", x.seed(8), 0);
        x.line(4, true);
        due.is("seed behind line", x.seed(9), 8);
    }

    private static void drawsByHand() {
        AxleKeeper x = new AxleKeeper();
        x.drift(1);
        seed = 0;
        for (int i = 0; i < 5; i++) draw(2);
        due.is("five draws a time", x.seed(0), seed);
        x.drift(7);
        seed = 0;
        for (int i = 0; i < 35; i++) draw(2);
        due.is("thirty-five draws", x.seed(0), seed);
        due.is("eight ticks", x.told(3), 8);
        due.is("eight deeds", x.told(16), 8);
    }

    /** What drift does, done by the calls of its parts on another object. */
    private static void driftIsItsDeeds(int n, boolean ring, int first) {
        AxleKeeper x = new AxleKeeper();
        AxleKeeper y = new AxleKeeper();
        x.line(n, ring);
        y.line(n, ring);
        x.seed(first);
        seed = first;
        for (int round = 0; round < 20; round++) {
            int times = round % 16 + 1;
            int clear = 0;
            for (int i = 0; i < times; i++) clear = partsOfADrift(y);
            due.is("drift(" + times + ")", x.drift(times), clear);
            compare(x, y);
        }
    }

    private static void driftWithBadHeads() {
        AxleKeeper x = new AxleKeeper();
        AxleKeeper y = new AxleKeeper();
        for (AxleKeeper each : new AxleKeeper[] {x, y}) {
            each.feel(0, 2);
            each.feel(1, 3);
            each.go(3, 1, 9);
        }
        x.seed(4242);
        seed = 4242;
        int clear = 0;
        for (int i = 0; i < 16; i++) clear = partsOfADrift(y);
        due.is("drift(16) with bad heads", x.drift(16), clear);
        compare(x, y);
    }

    private static int partsOfADrift(AxleKeeper y) {
        int h = draw(y.told(1));
        int side = draw(2);
        int n = draw(3) + 1;
        int luck = draw(16);
        int lost = draw(1 << y.told(1));
        if (luck == 0 || y.go(h, side, n) == AxleKeeper.NOT) y.miss(h, side, n);
        return y.tick(luck < 4 ? lost : 0);
    }

    private static void compare(AxleKeeper x, AxleKeeper y) {
        for (int what = 0; what < 14; what++) due.is("drifted told(" + what + ")", x.told(what), y.told(what));
        for (int s = 0; s < y.told(0); s++) {
            for (int what = 0; what < 7; what++) due.is("drifted section(" + s + ", " + what + ")", x.section(s, what), y.section(s, what));
        }
        for (int h = 0; h < y.told(1); h++) {
            for (int what = 0; what < 10; what++) due.is("drifted head(" + h + ", " + what + ")", x.head(h, what), y.head(h, what));
        }
    }

    private static void refusals() {
        AxleKeeper x = new AxleKeeper();
        int[] wrong = {0, -1, 17, Integer.MIN_VALUE, Integer.MAX_VALUE};
        for (int n : wrong) {
            due.is("drift(" + n + ")", x.drift(n), AxleKeeper.OUTSIDE);
            due.is("undo(" + n + ")", x.undo(n), AxleKeeper.OUTSIDE);
        }
        due.is("undo(1) of nothing", x.undo(1), AxleKeeper.NOT);
        due.is("nothing drawn", x.seed(0), 0);
        x.tick(0);
        due.is("undo(2) of one", x.undo(2), AxleKeeper.NOT);
        due.is("one still", x.told(16), 1);
    }

    private static void undoesEachDeed() {
        AxleKeeper x = new AxleKeeper();
        x.go(0, 0, 3);
        x.feel(1, 3);
        x.tick(8);
        x.reset(0);
        x.repair(1);
        x.miss(0, 1, 2);
        x.feel(1, 2);
        due.is("seven deeds", x.told(16), 7);
        due.is("undo a feel", x.undo(1), 6);
        due.is("state", x.head(1, 0), 0);
        due.is("undo a miss", x.undo(1), 5);
        due.is("true", x.section(0, 2), 3);
        due.is("undo a repair", x.undo(1), 4);
        due.is("faulty", x.head(1, 5), 1);
        due.is("undo a reset", x.undo(1), 3);
        due.is("disturbed", x.section(0, 0), 2);
        due.is("sum", x.section(0, 1), 1003);
        due.is("undo a tick", x.undo(1), 2);
        due.is("ticks", x.told(3), 0);
        due.is("heard", x.head(0, 3), 0);
        due.is("told faulty", x.head(1, 6), 0);
        due.is("age", x.head(3, 4), 0);
        due.is("undo two", x.undo(2), 0);
        due.is("true", x.told(12), 0);
        due.is("count", x.head(0, 2), 10000);
        due.is("faulty", x.told(10), 0);
        due.is("undo no more", x.undo(1), AxleKeeper.NOT);
    }

    private static void undoKeepsSixteen() {
        AxleKeeper x = new AxleKeeper();
        for (int i = 1; i <= 40; i++) {
            x.go(0, 0, 1);
            due.is("can be undone", x.told(16), Math.min(i, 16));
        }
        due.is("undo(5)", x.undo(5), 11);
        due.is("true", x.told(12), 35);
        x.go(0, 0, 9);
        due.is("undo(12)", x.undo(12), 0);
        due.is("true", x.told(12), 24);
        due.is("undo(1)", x.undo(1), AxleKeeper.NOT);
        for (int i = 0; i < 16; i++) x.go(0, 0, 1);
        due.is("undo(16)", x.undo(16), 0);
        due.is("true", x.told(12), 24);
    }

    private static void undoOfALine() {
        AxleKeeper x = new AxleKeeper();
        x.go(0, 0, 2);
        x.tick(0);
        x.write(0, 1);
        x.line(5, true);
        due.is("undo a line", x.undo(1), 2);
        due.is("sections", x.told(0), 3);
        due.is("heads", x.told(1), 4);
        due.is("no ring", x.told(2), 0);
        due.is("taken", x.told(5), 1);
        due.is("the book is not of sections 1, 2", x.told(14), 0);
        x.line(6, false);
        x.line(2, true);
        due.is("undo a line again", x.undo(1), 3);
        due.is("sections", x.told(0), 6);
        due.is("heads", x.told(1), 7);
    }

    private static void undoOfDrifts() {
        AxleKeeper x = new AxleKeeper();
        x.seed(31);
        x.go(0, 0, 9);
        x.drift(3);
        due.is("four deeds", x.told(16), 4);
        int drawn = x.seed(31);
        x.seed(drawn);
        due.is("undo(3)", x.undo(3), 1);
        due.is("ticks", x.told(3), 0);
        due.is("true", x.told(12), 9);
        due.is("the seed stays", x.seed(0), drawn);
        x.drift(16);
        x.drift(5);
        due.is("sixteen", x.told(16), 16);
        due.is("undo(16)", x.undo(16), 0);
        due.is("ticks", x.told(3), 5);
    }
}
