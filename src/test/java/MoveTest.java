/** Promises 7 and 8: go, miss. */
public final class MoveTest {
    private static final Due due = new Due("MoveTest");

    public static void main(String[] args) {
        goesThrough();
        goesRound();
        misses();
        refusals();
        headsThatDoNotFeel();
        due.end();
    }

    private static void goesThrough() {
        AxleKeeper x = new AxleKeeper();
        due.is("go(0, 0, 9)", x.go(0, 0, 9), 9);
        due.is("go(0, 0, 1)", x.go(0, 0, 1), 10);
        due.is("go(1, 0, 4)", x.go(1, 0, 4), 4);
        due.is("section(0, 2)", x.section(0, 2), 6);
        due.is("go(1, 1, 1)", x.go(1, 1, 1), 7);
        due.is("go(2, 0, 3)", x.go(2, 0, 3), 3);
        due.is("go(3, 0, 3) to out", x.go(3, 0, 3), 0);
        due.is("go(0, 1, 7) to out", x.go(0, 1, 7), 0);
        due.is("go(3, 1, 2) from out", x.go(3, 1, 2), 2);
        int[] count = {10003, 10003, 10003, 10001};
        for (int h = 0; h < 4; h++) {
            due.is("count of " + h, x.head(h, 2), count[h]);
            due.is("state of " + h, x.head(h, 0), 0);
            due.is("places of " + h, x.head(h, 1), 4);
        }
        due.is("true of all", x.told(12), 2);
        due.is("sums wait for telegrams", x.told(13), 1000);
        due.is("deeds", x.told(16), 8);
    }

    private static void goesRound() {
        AxleKeeper x = new AxleKeeper();
        x.line(2, true);
        due.is("nothing comes from out in a ring", x.miss(0, 0, 1), AxleKeeper.NOT);
        due.is("nor to the left", x.go(1, 1, 1), AxleKeeper.NOT);
        due.is("ring true", x.told(12), 0);
    }

    private static void misses() {
        AxleKeeper x = new AxleKeeper();
        due.is("miss(0, 0, 5)", x.miss(0, 0, 5), 5);
        due.is("miss(1, 0, 2)", x.miss(1, 0, 2), 2);
        due.is("miss(1, 1, 1)", x.miss(1, 1, 1), 4);
        due.is("miss(0, 1, 4)", x.miss(0, 1, 4), 0);
        for (int h = 0; h < 4; h++) due.is("count of " + h + " missed", x.head(h, 2), 10000);
        due.is("section(1, 2)", x.section(1, 2), 1);
        due.is("deeds", x.told(16), 4);
    }

    private static void refusals() {
        AxleKeeper x = new AxleKeeper();
        int[] heads = {-1, 4, Integer.MIN_VALUE, Integer.MAX_VALUE};
        for (int h : heads) {
            due.is("go(" + h + ", 5, 0)", x.go(h, 5, 0), AxleKeeper.UNKNOWN);
            due.is("miss(" + h + ", 5, 0)", x.miss(h, 5, 0), AxleKeeper.UNKNOWN);
        }
        int[] sides = {-1, 2, Integer.MIN_VALUE, Integer.MAX_VALUE};
        for (int side : sides) {
            due.is("go(1, " + side + ", 1)", x.go(1, side, 1), AxleKeeper.OUTSIDE);
            due.is("miss(1, " + side + ", 1)", x.miss(1, side, 1), AxleKeeper.OUTSIDE);
        }
        int[] numbers = {0, -1, 10, Integer.MIN_VALUE, Integer.MAX_VALUE};
        for (int n : numbers) {
            due.is("go(0, 0, " + n + ")", x.go(0, 0, n), AxleKeeper.OUTSIDE);
            due.is("miss(0, 0, " + n + ")", x.miss(0, 0, n), AxleKeeper.OUTSIDE);
        }
        due.is("go(1, 0, 1) of none", x.go(1, 0, 1), AxleKeeper.NOT);
        x.go(0, 0, 3);
        due.is("go(1, 0, 4) of three", x.go(1, 0, 4), AxleKeeper.NOT);
        due.is("miss(1, 0, 4) of three", x.miss(1, 0, 4), AxleKeeper.NOT);
        due.is("go(0, 1, 4) of three", x.go(0, 1, 4), AxleKeeper.NOT);
        due.is("go(1, 0, 3) of three", x.go(1, 0, 3), 3);
        due.is("deeds", x.told(16), 2);
    }

    private static void headsThatDoNotFeel() {
        AxleKeeper x = new AxleKeeper();
        x.feel(0, 2);
        due.is("not in state 0: go(0, 0, 1)", x.go(0, 0, 1), AxleKeeper.NOT);
        due.is("not in state 0: miss(0, 0, 1)", x.miss(0, 0, 1), 1);
        x.feel(0, 0);
        due.is("in state 0 again: go(0, 0, 1)", x.go(0, 0, 1), 2);
        x.feel(0, 3);
        due.is("faulty: go(0, 0, 1)", x.go(0, 0, 1), AxleKeeper.NOT);
        due.is("faulty: go(0, 0, 10)", x.go(0, 0, 10), AxleKeeper.OUTSIDE);
        due.is("faulty: miss(0, 0, 1)", x.miss(0, 0, 1), 3);
        due.is("count", x.head(0, 2), 10001);
    }
}
