/** Promises 9, 10 and 14: tick, reset, would. */
public final class TickTest {
    private static final Due due = new Due("TickTest");

    public static void main(String[] args) {
        refusals();
        leftOverBySixteen();
        lateTelegrams();
        ageEndsAtNinetyNine();
        disturbedStays();
        resetAndSweep();
        sweepDisturbedAgain();
        sweptOverTogether();
        noHealingWithABadHead();
        spoiledBetween();
        headsRiseWhileHealing();
        notSweptOverAnyMore();
        ringOfTwo();
        ringHealsOverHeadZero();
        wouldChangesNothing();
        due.end();
    }

    private static void calls(String when, AxleKeeper x, int... want) {
        for (int s = 0; s < want.length; s++) due.is(when + ": call of " + s, x.section(s, 0), want[s]);
    }

    private static void sums(String when, AxleKeeper x, int... want) {
        for (int s = 0; s < want.length; s++) due.is(when + ": sum of " + s, x.section(s, 1), 1000 + want[s]);
    }

    private static void refusals() {
        AxleKeeper x = new AxleKeeper();
        int[] wrong = {16, 31, -1, Integer.MIN_VALUE, Integer.MAX_VALUE, 1 << 30};
        for (int lost : wrong) {
            due.is("tick(" + lost + ")", x.tick(lost), AxleKeeper.UNKNOWN);
            due.is("would(" + lost + ")", x.would(lost), AxleKeeper.UNKNOWN);
        }
        due.is("no tick was", x.told(3), 0);
        due.is("tick(15)", x.tick(15), 7);
        x.line(3, true);
        due.is("ring of three: tick(8)", x.tick(8), AxleKeeper.UNKNOWN);
        due.is("ring of three: tick(7)", x.tick(7), 7);
        x.line(6, false);
        due.is("row of six: tick(127)", x.tick(127), 63);
        due.is("row of six: tick(128)", x.tick(128), AxleKeeper.UNKNOWN);
        due.is("reset(6)", x.reset(6), AxleKeeper.UNKNOWN);
        due.is("reset(-1)", x.reset(-1), AxleKeeper.UNKNOWN);
        due.is("reset(0) clear", x.reset(0), AxleKeeper.NOT);
    }

    private static void leftOverBySixteen() {
        AxleKeeper x = new AxleKeeper();
        x.go(0, 0, 8);
        x.tick(0);
        sums("eight more", x, 8, 0, 0);
        x.go(0, 0, 9);
        x.tick(0);
        due.is("seventeen are one", x.head(0, 3), 1);
        sums("nine more are seven less", x, 1, 0, 0);
        x.go(0, 1, 7);
        x.tick(0);
        due.is("ten", x.head(0, 3), 10);
        sums("seven less", x, -6, 0, 0);
        calls("below nothing", x, 2, 0, 0);
        x.go(0, 1, 8);
        x.tick(0);
        due.is("two", x.head(0, 3), 2);
        sums("eight less are eight more", x, 2, 0, 0);
        x.go(0, 0, 9);
        x.go(0, 0, 7);
        x.tick(0);
        sums("sixteen are nothing", x, 2, 0, 0);
    }

    private static void lateTelegrams() {
        AxleKeeper x = new AxleKeeper();
        x.go(0, 0, 3);
        due.is("lost", x.tick(1), 7);
        due.is("age 1", x.head(0, 4), 1);
        due.is("not heard", x.head(0, 3), 0);
        due.is("wrongly clear", x.told(8), 1);
        x.go(0, 0, 2);
        due.is("lost again", x.tick(1), 7);
        due.is("age 2", x.head(0, 4), 2);
        due.is("come", x.tick(14), 6);
        due.is("age 0", x.head(0, 4), 0);
        due.is("others are older", x.head(3, 4), 1);
        due.is("heard", x.head(0, 3), 5);
        sums("late", x, 5, 0, 0);
        calls("late", x, 1, 0, 0);
        due.is("ticks", x.told(3), 3);
        x.feel(1, 3);
        due.is("faulty, lost", x.tick(2), 6);
        due.is("not told", x.head(1, 6), 0);
        due.is("faulty, told", x.tick(0), 4);
        due.is("told", x.head(1, 6), 1);
    }

    private static void ageEndsAtNinetyNine() {
        AxleKeeper x = new AxleKeeper();
        for (int i = 1; i <= 110; i++) {
            x.tick(8);
            due.is("age", x.head(3, 4), Math.min(i, 99));
            due.is("left", x.section(2, 5), Math.max(0, 4 - i));
            due.is("call", x.section(2, 0), i > 3 ? 2 : 0);
        }
        due.is("ticks", x.told(3), 110);
    }

    private static void disturbedStays() {
        AxleKeeper x = new AxleKeeper();
        x.miss(0, 0, 1);
        x.go(0, 1, 1);
        due.is("tick", x.tick(0), 6);
        sums("one too few", x, -1, 0, 0);
        x.miss(0, 1, 1);
        x.go(0, 0, 1);
        due.is("tick", x.tick(0), 6);
        sums("none", x, 0, 0, 0);
        calls("disturbed all the same", x, 2, 0, 0);
        due.is("no trouble now", x.section(0, 3), 0);
    }

    private static void resetAndSweep() {
        AxleKeeper x = new AxleKeeper();
        x.miss(0, 0, 2);
        x.go(0, 1, 2);
        x.tick(0);
        due.is("reset(0)", x.reset(0), 998);
        due.is("reset(0) again", x.reset(0), AxleKeeper.NOT);
        due.is("sweep", x.told(7), 1);
        sums("reset", x, 0, 0, 0);
        due.is("not clear yet", x.tick(0), 6);
        calls("not swept", x, 3, 0, 0);
        x.go(0, 0, 2);
        due.is("entered", x.tick(0), 6);
        due.is("entered", x.section(0, 4), 1);
        calls("entered", x, 3, 0, 0);
        x.go(1, 0, 1);
        x.tick(0);
        calls("half out", x, 3, 1, 0);
        x.go(1, 0, 1);
        due.is("swept", x.tick(0), 5);
        calls("swept", x, 0, 1, 0);
        due.is("not entered", x.section(0, 4), 0);
        due.is("idle", x.told(9), 0);
    }

    private static void sweepDisturbedAgain() {
        AxleKeeper x = new AxleKeeper();
        x.feel(0, 3);
        x.tick(0);
        due.is("reset(0) with 0", x.reset(0), 1000);
        due.is("the head is told faulty still", x.tick(0), 6);
        calls("again", x, 2, 0, 0);
        x.reset(0);
        x.repair(0);
        x.tick(0);
        calls("sweep", x, 3, 0, 0);
        x.go(0, 0, 1);
        x.tick(0);
        due.is("entered", x.section(0, 4), 1);
        for (int i = 0; i < 4; i++) x.tick(1);
        calls("not heard too long", x, 2, 0, 0);
        x.tick(0);
        due.is("reset(0) with 1", x.reset(0), 1001);
        x.tick(0);
        calls("not entered by the axle that was there", x, 3, 0, 0);
        due.is("not entered", x.section(0, 4), 0);
    }

    private static void sweptOverTogether() {
        AxleKeeper x = new AxleKeeper();
        x.line(2, false);
        x.feel(1, 3);
        x.tick(0);
        calls("both", x, 2, 2);
        x.repair(1);
        x.tick(0);
        due.is("joint 0, not swept over", x.head(1, 7), 0);
        calls("both still", x, 2, 2);
        x.go(0, 0, 4);
        x.tick(0);
        due.is("swept over", x.head(1, 7), 1);
        due.is("joint", x.head(1, 8), 2004);
        x.miss(1, 0, 1);
        x.go(1, 0, 3);
        x.tick(0);
        sums("one was missed between", x, 1, 3);
        due.is("swept over still", x.head(1, 7), 1);
        x.go(2, 0, 4);
        due.is("healed", x.tick(0), 3);
        sums("healed", x, 0, 0);
        calls("healed", x, 0, 0);
        due.is("not swept over", x.head(1, 7), 0);
        due.is("suspects", x.told(11), 0);
    }

    private static void noHealingWithABadHead() {
        for (int bad = 0; bad < 3; bad++) {
            AxleKeeper x = new AxleKeeper();
            x.line(2, false);
            for (int i = 0; i < 4; i++) x.tick(2);
            calls("both", x, 2, 2);
            x.go(0, 0, 2);
            x.tick(0);
            due.is("swept over", x.head(1, 7), 1);
            x.go(1, 0, 2);
            x.go(2, 0, 2);
            x.feel(bad, 3);
            due.is("faulty head " + bad, x.tick(0), 0);
            due.is("swept over still", x.head(1, 7), 1);
            x.repair(bad);
            due.is("repaired head " + bad, x.tick(0), 3);
            due.is("healed", x.head(1, 7), 0);
        }
        AxleKeeper y = new AxleKeeper();
        y.line(2, false);
        for (int i = 0; i < 4; i++) y.tick(2);
        y.go(0, 0, 2);
        y.tick(2);
        y.go(0, 1, 2);
        due.is("too old", y.tick(2), 0);
        due.is("heard", y.tick(0), 3);
    }

    private static void spoiledBetween() {
        AxleKeeper x = new AxleKeeper();
        x.line(2, false);
        x.go(0, 0, 3);
        x.tick(0);
        x.miss(1, 0, 3);
        x.go(2, 0, 2);
        x.tick(0);
        sums("the second is below nothing", x, 3, -2);
        calls("the second", x, 1, 2);
        due.is("swept over at once", x.head(1, 7), 1);
        x.go(2, 0, 1);
        due.is("both healed", x.tick(0), 3);
        sums("healed", x, 0, 0);
        AxleKeeper y = new AxleKeeper();
        y.line(2, false);
        y.go(0, 0, 3);
        y.tick(0);
        y.miss(1, 0, 3);
        y.go(2, 0, 3);
        due.is("never above 0 while disturbed", y.tick(0), 0);
        due.is("not swept over", y.head(1, 7), 0);
        sums("not healed", y, 3, -3);
        due.is("nor later", y.tick(0), 0);
    }

    private static void headsRiseWhileHealing() {
        AxleKeeper x = new AxleKeeper();
        for (int i = 0; i < 4; i++) x.tick(2);
        calls("head 1 is not heard", x, 2, 2, 0);
        x.go(0, 0, 2);
        x.tick(0);
        x.go(1, 0, 2);
        x.tick(0);
        due.is("head 1 swept over", x.head(1, 7), 1);
        due.is("head 2 swept over", x.head(2, 7), 1);
        x.go(2, 0, 2);
        due.is("head 1 heals", x.tick(0), 3);
        calls("healed", x, 0, 0, 1);
        due.is("head 1 not any more", x.head(1, 7), 0);
        due.is("head 2 saw none disturbed", x.head(2, 7), 0);

        AxleKeeper y = new AxleKeeper();
        for (int i = 0; i < 4; i++) y.tick(4);
        calls("head 2 is not heard", y, 0, 2, 2);
        y.go(3, 1, 2);
        y.tick(0);
        y.go(2, 1, 2);
        y.tick(0);
        y.go(1, 1, 2);
        due.is("head 2 heals", y.tick(0), 6);
        calls("healed", y, 1, 0, 0);
        due.is("head 1 was looked at ahead of it", y.head(1, 7), 1);
        y.tick(0);
        due.is("head 1 sees none disturbed", y.head(1, 7), 0);
    }

    private static void notSweptOverAnyMore() {
        AxleKeeper x = new AxleKeeper();
        x.line(2, false);
        x.feel(0, 3);
        x.tick(0);
        x.repair(0);
        x.go(0, 0, 2);
        x.tick(0);
        due.is("swept over", x.head(1, 7), 1);
        x.reset(0);
        due.is("till the next tick", x.head(1, 7), 1);
        x.tick(0);
        due.is("none disturbed", x.head(1, 7), 0);
        due.is("ends are never swept over", x.head(0, 7) + x.head(2, 7), 0);
    }

    private static void ringOfTwo() {
        AxleKeeper x = new AxleKeeper();
        x.line(2, true);
        int[] right = {2, 3, 1, 0};
        for (int v : right) x.feel(0, v);
        due.is("into 0, out of 1", x.tick(0), 0);
        sums("ring", x, 1, -1);
        calls("ring", x, 1, 2);
        due.is("both heads join both", x.head(0, 8), 2000);
        due.is("both heads join both", x.head(1, 8), 2000);
        due.is("head 0 one too many", x.head(0, 9), 9);
        due.is("head 1 one too few", x.head(1, 9), 11);
        for (int v : right) x.feel(1, v);
        x.tick(0);
        sums("round", x, 0, 0);
        calls("round", x, 0, 2);
    }

    /** Head 0 of a ring joins the last section and the first. */
    private static void ringHealsOverHeadZero() {
        AxleKeeper x = new AxleKeeper();
        x.line(3, true);
        int[] right = {2, 3, 1, 0};
        x.feel(0, 3);
        x.tick(0);
        x.repair(0);
        x.tick(0);
        calls("head 0 was faulty", x, 2, 0, 2);
        for (int v : right) x.feel(2, v);
        x.tick(0);
        sums("one came into 2", x, 0, -1, 1);
        calls("one came into 2", x, 2, 2, 2);
        due.is("head 0 swept over", x.head(0, 7), 1);
        for (int v : right) x.feel(1, v);
        due.is("healed", x.tick(0), 5);
        sums("healed", x, 0, 0, 0);
        calls("healed", x, 0, 2, 0);
        due.is("head 0 not any more", x.head(0, 7), 0);
    }

    private static void wouldChangesNothing() {
        AxleKeeper x = new AxleKeeper();
        x.go(0, 0, 4);
        x.feel(2, 3);
        due.is("would(0)", x.would(0), 0);
        due.is("would(1)", x.would(1), 1);
        due.is("would(4)", x.would(4), 6);
        due.is("would(5)", x.would(5), 7);
        due.is("still clear", x.told(4), 7);
        due.is("no tick", x.told(3), 0);
        due.is("no deed", x.told(16), 2);
        due.is("not heard", x.head(0, 3), 0);
        due.is("no age", x.head(0, 4), 0);
        due.is("tick(4)", x.tick(4), 6);
        due.is("would(4) for the fourth time", x.would(4), 6);
        x.tick(4);
        x.tick(4);
        due.is("would(4) too old", x.would(4), 0);
        x.go(1, 0, 4);
        due.is("would(1)", x.would(1), 1);
    }
}
