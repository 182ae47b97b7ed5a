/** The boundary cases of section 2 of the document: telegrams, CALLS, JOINTS, RESET, axles that are truly there. */
public final class BoundsTicksTest {
    private static final int NONE = AxleKeeper.NONE, NOT = AxleKeeper.NOT;
    private static final int CLEAR = 0, TAKEN = 1, DISTURBED = 2, SWEEP = 3;

    public static void main(String[] args) {
        sentences().end("BoundsTicksTest");
    }

    static Sentences sentences() {
        Sentences all = new Sentences();
        telegrams(all);
        calls(all);
        joints(all);
        axles(all);
        return all;
    }

    // ---- telegrams

    private static void telegrams(Sentences all) {
        all.add("a telegram: COUNT left over by 16 (0 .. 15)", BoundsTicksTest::leftOverBySixteen)
            .add("the difference, left over by 16, less 16 if it is above 8", BoundsTicksTest::differences)
            .add("added to SUM at its right, taken from that at its left", BoundsTicksTest::addedAndTaken)
            .add("one that comes: AGE is 0 then", BoundsTicksTest::ageIsZero)
            .add("one that is LOST: AGE is 1 more", BoundsTicksTest::oneMore)
            .add("AGE: 99 at most", BoundsTicksTest::ninetyNine)
            .add("one that is LOST: nothing is HEARD", BoundsTicksTest::lostIsNotHeard)
            .add("a telegram: whether it is FAULTY", BoundsTicksTest::toldFaulty);
    }

    /** A row of 1 in which the COUNT of HEAD 0 is that, by axles that are there. */
    private static AxleKeeper counted(int count) {
        AxleKeeper x = Look.row(1);
        count(x, count);
        return x;
    }

    private static void count(AxleKeeper x, int more) {
        int side = more > 0 ? 0 : 1;
        for (int left = Math.abs(more); left > 0; left -= 9) {
            int n = Math.min(left, 9);
            if (side == 1) x.miss(0, 0, n);
            x.go(0, side, n);
        }
    }

    private static void leftOverBySixteen(Due due) {
        int[] counts = {0, 1, 7, 8, 9, 14, 15, 16, 17, 31, 32, 33, -1, -2, -8, -15, -16, -17, -32, -33};
        for (int count : counts) {
            AxleKeeper x = counted(count);
            due.is("count", x.head(0, 2), 10000 + count);
            x.tick(0);
            due.is("heard of " + count, x.head(0, 3), Math.floorMod(count, 16));
        }
    }

    private static void differences(Due due) {
        int[] before = {0, 1, 7, 8, 13, 15, 16, -1, -9};
        for (int first : before) {
            for (int more = -17; more <= 17; more++) {
                AxleKeeper x = counted(first);
                x.tick(0);
                int sum = x.section(0, 1);
                count(x, more);
                x.tick(0);
                int over = Math.floorMod(more, 16);
                due.is(more + " more behind " + first, x.section(0, 1) - sum, over > 8 ? over - 16 : over);
            }
        }
        AxleKeeper y = counted(8);
        y.tick(0);
        due.is("8 are 8 more", y.section(0, 1), 1008);
        AxleKeeper z = counted(9);
        z.tick(0);
        due.is("9 are 7 less", z.section(0, 1), 993);
        AxleKeeper w = counted(-8);
        w.tick(0);
        due.is("8 less are 8 more", w.section(0, 1), 1008);
    }

    private static void addedAndTaken(Due due) {
        for (int h = 0; h <= 3; h++) {
            AxleKeeper x = new AxleKeeper();
            Look.feltRight(x, h);
            Look.feltRight(x, h);
            x.tick(0);
            Look.sums(due, "two to the right over " + h, x, h == 0 ? 2 : h == 1 ? -2 : 0, h == 1 ? 2 : h == 2 ? -2 : 0, h == 2 ? 2 : h == 3 ? -2 : 0);
            AxleKeeper y = new AxleKeeper();
            Look.feltLeft(y, h);
            y.tick(0);
            Look.sums(due, "one to the left over " + h, y, h == 0 ? -1 : h == 1 ? 1 : 0, h == 1 ? -1 : h == 2 ? 1 : 0, h == 2 ? -1 : h == 3 ? 1 : 0);
        }
    }

    private static void ageIsZero(Due due) {
        for (int losses = 0; losses <= 5; losses++) {
            AxleKeeper x = new AxleKeeper();
            Look.ticks(x, 15, losses);
            x.tick(13);
            due.is("head 1 came", x.head(1, 4), 0);
            due.is("head 0 did not", x.head(0, 4), losses + 1);
        }
    }

    private static void oneMore(Due due) {
        AxleKeeper x = new AxleKeeper();
        for (int age = 1; age <= 6; age++) {
            x.tick(4);
            due.is("age of head 2", x.head(2, 4), age);
            for (int h = 0; h < 4; h++) if (h != 2) due.is("age of head " + h, x.head(h, 4), 0);
        }
    }

    private static void ninetyNine(Due due) {
        AxleKeeper x = new AxleKeeper();
        Look.ticks(x, 1, 98);
        due.is("98 lost", x.head(0, 4), 98);
        x.tick(1);
        due.is("99 lost", x.head(0, 4), 99);
        x.tick(1);
        due.is("100 lost", x.head(0, 4), 99);
        Look.ticks(x, 1, 200);
        due.is("300 lost", x.head(0, 4), 99);
        due.is("300 ticks", x.told(3), 300);
        x.tick(0);
        due.is("come", x.head(0, 4), 0);
    }

    private static void lostIsNotHeard(Due due) {
        AxleKeeper x = new AxleKeeper();
        x.go(0, 0, 3);
        x.feel(0, 3);
        x.tick(1);
        due.is("not heard", x.head(0, 3), 0);
        due.is("not told faulty", x.head(0, 6), 0);
        Look.sums(due, "lost", x, 0, 0, 0);
        x.tick(0);
        due.is("heard", x.head(0, 3), 3);
        due.is("told faulty", x.head(0, 6), 1);
        Look.sums(due, "come", x, 3, 0, 0);
        x.repair(0);
        x.tick(1);
        due.is("told faulty still", x.head(0, 6), 1);
    }

    private static void toldFaulty(Due due) {
        AxleKeeper x = new AxleKeeper();
        x.feel(3, 3);
        due.is("ahead of the tick", x.head(3, 6), 0);
        x.tick(0);
        for (int h = 0; h < 4; h++) due.is("behind it", x.head(h, 6), h == 3 ? 1 : 0);
        x.repair(3);
        due.is("repaired", x.head(3, 6), 1);
        x.tick(0);
        due.is("told so", x.head(3, 6), 0);
    }

    // ---- calls

    private static void calls(Sentences all) {
        all.add("all CLEAR at first", BoundsTicksTest::clearAtFirst)
            .add("TROUBLE: SUM is below 0", BoundsTicksTest::sumBelowNothing)
            .add("TROUBLE: a HEAD of it was told to be FAULTY (as HEARD)", BoundsTicksTest::troubleByAFaultyHead)
            .add("TROUBLE: a HEAD of it has AGE above 3", BoundsTicksTest::troubleByAnOldHead)
            .add("with TROUBLE it becomes DISTURBED", BoundsTicksTest::troubleDisturbsAll)
            .add("TAKEN, if SUM is above 0, else CLEAR", BoundsTicksTest::takenAboveNothing)
            .add("DISTURBED stays", BoundsTicksTest::disturbedStays)
            .add("SWEEP: once its SUM is above 0 it is ENTERED", BoundsTicksTest::entered)
            .add("SWEEP: if it is ENTERED and SUM is 0, it is CLEAR", BoundsTicksTest::swept)
            .add("SWEEP: not ENTERED, it stays", BoundsTicksTest::notEntered)
            .add("RESET: SUM 0, SWEEP, not ENTERED", BoundsTicksTest::reset);
    }

    private static void clearAtFirst(Due due) {
        for (int n = 1; n <= 6; n++) {
            due.is("row of " + n, Look.row(n).told(4), (1 << n) - 1);
            due.is("row of " + n + " behind a tick", Look.row(n).tick(0), (1 << n) - 1);
            if (n > 1) due.is("ring of " + n, Look.ring(n).told(4), (1 << n) - 1);
        }
    }

    private static void sumBelowNothing(Due due) {
        AxleKeeper x = new AxleKeeper();
        x.go(0, 0, 2);
        x.tick(0);
        x.go(0, 1, 2);
        x.tick(0);
        due.is("at 0 no trouble", x.section(0, 3), 0);
        due.is("at 0 clear", x.section(0, 0), CLEAR);
        Look.feltLeft(x, 0);
        x.tick(0);
        due.is("at -1", x.section(0, 1), 999);
        due.is("at -1 trouble", x.section(0, 3), 1);
        due.is("at -1 disturbed", x.section(0, 0), DISTURBED);
        due.is("no trouble beside it", x.section(1, 3), 0);
    }

    private static void troubleByAFaultyHead(Due due) {
        for (int h = 0; h <= 3; h++) {
            AxleKeeper x = new AxleKeeper();
            x.feel(h, 3);
            for (int s = 0; s < 3; s++) due.is("head " + h + " faulty, not heard: section " + s, x.section(s, 3), 0);
            x.tick(1 << h);
            Look.calls(due, "head " + h + " faulty, lost", x, CLEAR, CLEAR, CLEAR);
            x.tick(0);
            for (int s = 0; s < 3; s++) {
                int its = h == s || h == s + 1 ? 1 : 0;
                due.is("head " + h + " faulty, heard: trouble of " + s, x.section(s, 3), its);
                due.is("head " + h + " faulty, heard: call of " + s, x.section(s, 0), its == 1 ? DISTURBED : CLEAR);
            }
        }
    }

    private static void troubleByAnOldHead(Due due) {
        for (int h = 0; h <= 3; h++) {
            AxleKeeper x = new AxleKeeper();
            Look.ticks(x, 1 << h, 3);
            for (int s = 0; s < 3; s++) due.is("head " + h + " of age 3: trouble of " + s, x.section(s, 3), 0);
            Look.calls(due, "head " + h + " of age 3", x, CLEAR, CLEAR, CLEAR);
            x.tick(1 << h);
            for (int s = 0; s < 3; s++) {
                int its = h == s || h == s + 1 ? 1 : 0;
                due.is("head " + h + " of age 4: trouble of " + s, x.section(s, 3), its);
                due.is("head " + h + " of age 4: call of " + s, x.section(s, 0), its == 1 ? DISTURBED : CLEAR);
            }
        }
    }

    /** A row of 1 whose section is in that CALL, with no TROUBLE. */
    private static AxleKeeper inCall(int call) {
        AxleKeeper x = Look.row(1);
        if (call >= DISTURBED) {
            Look.ticks(x, 1, 4);
            x.tick(0);
        }
        if (call == SWEEP) x.reset(0);
        if (call == TAKEN) {
            x.go(0, 0, 1);
            x.tick(0);
        }
        return x;
    }

    private static void troubleDisturbsAll(Due due) {
        for (int call = CLEAR; call <= SWEEP; call++) {
            due.is("call", inCall(call).section(0, 0), call);
            due.is("no trouble", inCall(call).section(0, 3), 0);
            AxleKeeper faulty = inCall(call);
            faulty.feel(1, 3);
            faulty.tick(0);
            due.is(call + " with a faulty head", faulty.section(0, 0), DISTURBED);
            AxleKeeper old = inCall(call);
            Look.ticks(old, 2, 4);
            due.is(call + " with an old head", old.section(0, 0), DISTURBED);
            AxleKeeper below = inCall(call);
            Look.feltLeft(below, 0);
            Look.feltLeft(below, 0);
            below.tick(0);
            due.is(call + " with a sum below 0", below.section(0, 0), DISTURBED);
        }
        AxleKeeper entered = inCall(SWEEP);
        entered.go(0, 0, 1);
        entered.tick(0);
        entered.feel(1, 3);
        entered.tick(0);
        due.is("entered, with a faulty head", entered.section(0, 0), DISTURBED);
    }

    private static void takenAboveNothing(Due due) {
        AxleKeeper x = Look.row(1);
        x.tick(0);
        due.is("clear at 0", x.section(0, 0), CLEAR);
        x.go(0, 0, 1);
        x.tick(0);
        due.is("taken at 1", x.section(0, 0), TAKEN);
        x.tick(0);
        due.is("taken still", x.section(0, 0), TAKEN);
        x.go(1, 0, 1);
        due.is("taken till it is heard", x.section(0, 0), TAKEN);
        x.tick(0);
        due.is("clear at 0 again", x.section(0, 0), CLEAR);
    }

    private static void disturbedStays(Due due) {
        AxleKeeper x = inCall(DISTURBED);
        Look.ticks(x, 0, 3);
        due.is("at 0", x.section(0, 0), DISTURBED);
        x.go(0, 0, 1);
        x.tick(0);
        due.is("at 1", x.section(0, 0), DISTURBED);
        x.go(1, 0, 1);
        x.tick(0);
        due.is("at 0 again: a train alone does not sweep it", x.section(0, 0), DISTURBED);
        due.is("no trouble", x.section(0, 3), 0);
    }

    private static void entered(Due due) {
        AxleKeeper x = inCall(SWEEP);
        x.go(0, 0, 1);
        due.is("not heard yet", x.section(0, 4), 0);
        x.tick(0);
        due.is("at 1", x.section(0, 4), 1);
        due.is("at 1 sweep", x.section(0, 0), SWEEP);
    }

    private static void swept(Due due) {
        AxleKeeper x = inCall(SWEEP);
        x.go(0, 0, 2);
        x.tick(0);
        x.go(1, 0, 1);
        x.tick(0);
        due.is("at 1", x.section(0, 0), SWEEP);
        x.go(1, 0, 1);
        due.is("tick", x.tick(0), 1);
        due.is("at 0", x.section(0, 0), CLEAR);
        due.is("not entered any more", x.section(0, 4), 0);
        AxleKeeper below = inCall(SWEEP);
        below.go(0, 0, 1);
        below.tick(0);
        below.go(1, 0, 1);
        Look.feltRight(below, 1);
        due.is("below 0 it is no sweep", below.tick(0), 0);
        due.is("below 0", below.section(0, 0), DISTURBED);
    }

    private static void notEntered(Due due) {
        AxleKeeper x = inCall(SWEEP);
        Look.ticks(x, 0, 5);
        due.is("five ticks at 0", x.section(0, 0), SWEEP);
        x.go(0, 0, 3);
        x.go(1, 0, 3);
        x.tick(0);
        due.is("in and out between ticks", x.section(0, 0), SWEEP);
        due.is("not entered", x.section(0, 4), 0);
    }

    private static void reset(Due due) {
        AxleKeeper x = inCall(DISTURBED);
        x.go(0, 0, 4);
        x.tick(0);
        due.is("what sum was", x.reset(0), 1004);
        due.is("sum", x.section(0, 1), 1000);
        due.is("sweep", x.section(0, 0), SWEEP);
        due.is("not entered", x.section(0, 4), 0);
        due.is("the axles are there still", x.section(0, 2), 4);
        x.go(0, 0, 1);
        x.tick(0);
        due.is("entered", x.section(0, 4), 1);
        x.feel(1, 3);
        x.tick(0);
        x.repair(1);
        x.tick(0);
        due.is("reset once more", x.reset(0), 1001);
        x.tick(0);
        due.is("not entered again", x.section(0, 4), 0);
        due.is("not clear by what was ahead of the reset", x.section(0, 0), SWEEP);
    }

    // ---- joints

    private static void joints(Sentences all) {
        all.add("HEADS that have a SECTION on both sides (two unlike ones)", BoundsTicksTest::headsOfJoints)
            .add("JOINT: both SUMS together", BoundsTicksTest::joint)
            .add("SWEPT OVER when JOINT is above 0", BoundsTicksTest::sweptOverAboveNothing)
            .add("SWEPT OVER if a SECTION of it is DISTURBED, either", BoundsTicksTest::eitherIsDisturbed)
            .add("SWEPT OVER stays as long as one of them is DISTURBED", BoundsTicksTest::staysSweptOver)
            .add("not SWEPT OVER if neither is DISTURBED", BoundsTicksTest::neitherIsDisturbed)
            .add("HEALED only if it was SWEPT OVER", BoundsTicksTest::notHealedUnswept)
            .add("HEALED when JOINT is 0, not above, not below", BoundsTicksTest::healedAtNothing)
            .add("HEALED: no HEAD of both is told to be FAULTY", BoundsTicksTest::notHealedWithAFaultyHead)
            .add("HEALED: no HEAD of both has AGE above 3", BoundsTicksTest::notHealedWithAnOldHead)
            .add("HEALED: SUMS 0, CLEAR, not SWEPT OVER any more", BoundsTicksTest::healed)
            .add("HEADS rising are judged behind SECTIONS", BoundsTicksTest::headsRising)
            .add("RING: HEAD 0 has a JOINT as any other", BoundsTicksTest::jointOfHeadZero);
    }

    private static void headsOfJoints(Due due) {
        for (int n = 1; n <= 6; n++) {
            AxleKeeper x = Look.row(n);
            for (int h = 0; h <= n; h++) due.is("row of " + n + ": head " + h, x.head(h, 8), h == 0 || h == n ? NONE : 2000);
            if (n == 1) continue;
            AxleKeeper y = Look.ring(n);
            for (int h = 0; h < n; h++) due.is("ring of " + n + ": head " + h, y.head(h, 8), 2000);
        }
        // a section at an end, DISTURBED with a sum above 0, does not make the head at the end SWEPT OVER
        AxleKeeper end = inCall(DISTURBED);
        end.go(0, 0, 1);
        end.tick(0);
        due.is("head 0", end.head(0, 7), 0);
        due.is("head 1", end.head(1, 7), 0);
    }

    private static void joint(Due due) {
        AxleKeeper x = new AxleKeeper();
        x.go(0, 0, 5);
        Look.feltLeft(x, 3);
        Look.feltRight(x, 2);
        Look.feltRight(x, 2);
        x.tick(0);
        Look.sums(due, "sums", x, 5, -2, 3);
        due.is("joint of 1", x.head(1, 8), 2003);
        due.is("joint of 2", x.head(2, 8), 2001);
        Look.feltRight(x, 1);
        due.is("not ahead of the tick", x.head(1, 8), 2003);
        AxleKeeper y = new AxleKeeper();
        Look.feltRight(y, 3);
        y.tick(0);
        due.is("below 0", y.head(2, 8), 1999);
    }

    /** A row of 2 of which the sections told (a SET) are DISTURBED, with no TROUBLE, SUMS 0. */
    private static AxleKeeper disturbed(int which) {
        AxleKeeper x = Look.row(2);
        Look.ticks(x, which == 3 ? 2 : which == 1 ? 1 : 4, 4);
        x.tick(0);
        return x;
    }

    private static void sweptOverAboveNothing(Due due) {
        AxleKeeper x = disturbed(3);
        due.is("at 0", x.head(1, 7), 0);
        Look.feltLeft(x, 0);
        x.tick(0);
        due.is("at -1", x.head(1, 7), 0);
        Look.feltRight(x, 0);
        Look.feltRight(x, 0);
        due.is("ahead of the tick", x.head(1, 7), 0);
        x.tick(0);
        due.is("joint 1", x.head(1, 8), 2001);
        due.is("at 1", x.head(1, 7), 1);
    }

    private static void eitherIsDisturbed(Due due) {
        for (int which = 0; which <= 3; which++) {
            AxleKeeper x = which == 0 ? Look.row(2) : disturbed(which);
            due.is("disturbed", x.told(6), which);
            x.go(0, 0, 1);
            x.tick(0);
            due.is("swept over with " + which + " disturbed", x.head(1, 7), which == 0 ? 0 : 1);
            AxleKeeper y = which == 0 ? Look.row(2) : disturbed(which);
            y.go(2, 1, 1);
            y.tick(0);
            due.is("swept over from the right with " + which + " disturbed", y.head(1, 7), which == 0 ? 0 : 1);
        }
    }

    private static void staysSweptOver(Due due) {
        AxleKeeper x = disturbed(3);
        x.go(0, 0, 2);
        x.go(1, 0, 1);
        x.tick(0);
        x.reset(0);
        x.tick(0);
        due.is("one is disturbed still", x.told(6), 2);
        due.is("swept over, joint 1", x.head(1, 7), 1);
        AxleKeeper y = disturbed(3);
        y.go(0, 0, 1);
        y.tick(0);
        y.feel(2, 3);
        y.go(0, 1, 1);
        y.tick(0);
        due.is("joint 0, a head is faulty", y.head(1, 7), 1);
        Look.feltLeft(y, 0);
        y.tick(0);
        due.is("joint -1", y.head(1, 8), 1999);
        due.is("swept over still", y.head(1, 7), 1);
    }

    private static void neitherIsDisturbed(Due due) {
        AxleKeeper x = disturbed(1);
        x.go(0, 0, 1);
        x.tick(0);
        due.is("swept over", x.head(1, 7), 1);
        x.reset(0);
        x.tick(0);
        due.is("in sweep it is not", x.head(1, 7), 0);
        due.is("calls", x.told(6), 0);
        // and it is not remembered: disturbed again, JOINT 0 heals nothing
        Look.ticks(x, 1, 4);
        x.tick(0);
        due.is("disturbed again", x.told(6), 1);
        due.is("not swept over", x.head(1, 7), 0);
    }

    private static void notHealedUnswept(Due due) {
        AxleKeeper x = disturbed(3);
        Look.ticks(x, 0, 3);
        due.is("joint 0, never above", x.told(6), 3);
        Look.feltLeft(x, 0);
        x.tick(0);
        Look.feltRight(x, 0);
        x.tick(0);
        due.is("joint 0, only below", x.told(6), 3);
        x.go(0, 0, 3);
        x.go(1, 0, 3);
        x.go(2, 0, 3);
        x.tick(0);
        due.is("through between two ticks", x.told(6), 3);
    }

    private static AxleKeeper sweptOver(int axles) {
        AxleKeeper x = disturbed(3);
        x.go(0, 0, axles);
        x.tick(0);
        return x;
    }

    private static void healedAtNothing(Due due) {
        AxleKeeper above = sweptOver(2);
        above.go(1, 0, 2);
        above.go(2, 0, 1);
        due.is("joint 1", above.tick(0), 0);
        due.is("joint", above.head(1, 8), 2001);
        above.go(2, 0, 1);
        due.is("joint 0", above.tick(0), 3);
        AxleKeeper below = sweptOver(2);
        below.go(1, 0, 2);
        below.go(2, 0, 2);
        Look.feltRight(below, 2);
        due.is("joint -1", below.tick(0), 0);
        due.is("joint", below.head(1, 8), 1999);
        Look.feltLeft(below, 2);
        due.is("joint 0 again", below.tick(0), 3);
        AxleKeeper spoiled = sweptOver(2);
        spoiled.miss(1, 0, 2);
        spoiled.go(2, 0, 2);
        due.is("sums 2 and -2", spoiled.tick(0), 3);
        Look.sums(due, "healed", spoiled, 0, 0);
    }

    private static void notHealedWithAFaultyHead(Due due) {
        for (int bad = 0; bad <= 2; bad++) {
            AxleKeeper x = sweptOver(1);
            x.go(0, 1, 1);
            x.feel(bad, 3);
            due.is("head " + bad + " told faulty", x.tick(0), 0);
            x.repair(bad);
            due.is("head " + bad + " repaired, lost", x.tick(1 << bad), 0);
            due.is("head " + bad + " told repaired", x.tick(0), 3);
        }
        // faulty, but not told so: the telegram is LOST
        AxleKeeper y = sweptOver(1);
        y.go(0, 1, 1);
        y.feel(1, 3);
        due.is("not told", y.tick(2), 3);
    }

    private static void notHealedWithAnOldHead(Due due) {
        for (int old = 0; old <= 2; old++) {
            AxleKeeper three = sweptOver(1);
            Look.ticks(three, 1 << old, 2);
            goOverAnother(three, old);
            due.is("head " + old + " of age 3", three.tick(1 << old), 3);
            AxleKeeper four = sweptOver(1);
            Look.ticks(four, 1 << old, 3);
            goOverAnother(four, old);
            due.is("head " + old + " of age 4", four.tick(1 << old), 0);
            due.is("head " + old + " heard", four.tick(0), 3);
        }
    }

    /** The one axle of section 0 leaves both sections over heads that are heard, or is felt to do so. */
    private static void goOverAnother(AxleKeeper x, int old) {
        if (old == 0) Look.feltRight(x, 2);
        else x.go(0, 1, 1);
    }

    private static void healed(Due due) {
        AxleKeeper x = sweptOver(3);
        x.miss(1, 0, 3);
        x.go(2, 0, 2);
        x.tick(0);
        Look.sums(due, "one not out yet", x, 3, -2);
        x.go(2, 0, 1);
        due.is("both are clear", x.tick(0), 3);
        Look.calls(due, "healed", x, CLEAR, CLEAR);
        Look.sums(due, "healed", x, 0, 0);
        due.is("not swept over", x.head(1, 7), 0);
        // one that is TAKEN or in SWEEP is HEALED with the one that is DISTURBED
        AxleKeeper taken = disturbed(2);
        taken.go(0, 0, 1);
        taken.tick(0);
        Look.calls(due, "taken", taken, TAKEN, DISTURBED);
        taken.miss(1, 0, 1);
        taken.go(2, 0, 1);
        due.is("taken is healed", taken.tick(0), 3);
        Look.sums(due, "taken is healed", taken, 0, 0);
        AxleKeeper sweep = disturbed(3);
        sweep.reset(0);
        sweep.go(0, 0, 1);
        sweep.tick(0);
        Look.calls(due, "sweep", sweep, SWEEP, DISTURBED);
        sweep.miss(1, 0, 1);
        sweep.go(2, 0, 1);
        due.is("sweep is healed", sweep.tick(0), 3);
        due.is("not entered", sweep.section(0, 4), 0);
    }

    private static void headsRising(Due due) {
        AxleKeeper x = new AxleKeeper();
        Look.ticks(x, 2, 4);
        x.go(0, 0, 1);
        x.tick(0);
        x.go(1, 0, 1);
        x.tick(0);
        due.is("head 1 swept over", x.head(1, 7), 1);
        due.is("head 2 swept over", x.head(2, 7), 1);
        x.go(2, 0, 1);
        due.is("head 1 heals", x.tick(0), 3);
        due.is("head 2 comes behind it: none is disturbed", x.head(2, 7), 0);
        // a section that becomes DISTURBED in this TICK counts as such for the joints of this TICK
        AxleKeeper y = Look.row(2);
        y.go(0, 0, 3);
        y.tick(0);
        Look.feltRight(y, 2);
        y.tick(0);
        Look.calls(due, "disturbed now", y, TAKEN, DISTURBED);
        due.is("swept over now", y.head(1, 7), 1);
    }

    /** In a ring of N, HEAD 0 joins the last section and the first; it sweeps and heals them. */
    private static void jointOfHeadZero(Due due) {
        for (int n = 2; n <= 6; n++) {
            AxleKeeper x = Look.ring(n);
            Look.ticks(x, 1, 4);
            x.tick(0);
            due.is("ring of " + n + ": disturbed", x.told(6), 1 | 1 << n - 1);
            if (n == 2) continue;
            Look.feltLeft(x, 1);
            x.tick(0);
            due.is("ring of " + n + ": joint", x.head(0, 8), 2001);
            due.is("ring of " + n + ": swept over", x.head(0, 7), 1);
            Look.feltRight(x, 1);
            due.is("ring of " + n + ": healed", x.tick(0), (1 << n) - 1 & ~2);
            due.is("ring of " + n + ": not swept over", x.head(0, 7), 0);
        }
    }

    // ---- axles that are truly there

    private static void axles(Sentences all) {
        all.add("TRUE: 0 at first", BoundsTicksTest::noAxlesAtFirst)
            .add("GONE: TRUE of where they come from is n less, where they go n more", BoundsTicksTest::lessAndMore)
            .add("OUT has as many as one likes", BoundsTicksTest::asManyAsOneLikes)
            .add("GONE: the HEAD feels all STATES of each of them", BoundsTicksTest::feelsAll)
            .add("MISSED: the HEAD feels nothing", BoundsTicksTest::feelsNothing);
    }

    private static void noAxlesAtFirst(Due due) {
        AxleKeeper x = new AxleKeeper();
        for (int s = 0; s < 3; s++) due.is("true of " + s, x.section(s, 2), 0);
        due.is("of all", x.told(12), 0);
        due.is("none can go", x.go(1, 0, 1), NOT);
        due.is("none can go left", x.go(1, 1, 1), NOT);
    }

    private static void lessAndMore(Due due) {
        for (int n = 1; n <= 9; n++) {
            AxleKeeper x = new AxleKeeper();
            x.go(0, 0, 9);
            due.is("go(1, 0, " + n + ")", x.go(1, 0, n), n);
            due.is("left behind", x.section(0, 2), 9 - n);
            due.is("one more than there are", x.go(1, 0, 10 - n), NOT);
            due.is("back", x.miss(1, 1, n), 9);
            due.is("none left", x.section(1, 2), 0);
            due.is("all go", x.miss(1, 0, 9), 9);
            due.is("none left", x.section(0, 2), 0);
        }
    }

    private static void asManyAsOneLikes(Due due) {
        AxleKeeper x = new AxleKeeper();
        for (int i = 1; i <= 100; i++) due.is("from the left", x.go(0, 0, 9), 9 * i);
        for (int i = 1; i <= 100; i++) due.is("from the right", x.miss(3, 1, 9), 9 * i);
        due.is("all", x.told(12), 1800);
        due.is("to the left", x.go(0, 1, 9), 0);
        due.is("to the right", x.miss(3, 0, 9), 0);
    }

    private static void feelsAll(Due due) {
        for (int n = 1; n <= 9; n++) {
            AxleKeeper x = new AxleKeeper();
            x.go(0, 0, n);
            due.is("to the right", x.head(0, 2), 10000 + n);
            due.is("state", x.head(0, 0), 0);
            due.is("places", x.head(0, 1), 4);
            x.go(3, 1, n);
            due.is("to the left", x.head(3, 2), 10000 - n);
        }
    }

    private static void feelsNothing(Due due) {
        AxleKeeper x = new AxleKeeper();
        due.is("miss", x.miss(0, 0, 9), 9);
        due.is("count", x.head(0, 2), 10000);
        x.feel(1, 2);
        due.is("miss in state 2", x.miss(1, 0, 9), 9);
        due.is("state", x.head(1, 0), 2);
        due.is("places", x.head(1, 1), 5);
        x.feel(2, 3);
        due.is("miss over a faulty head", x.miss(2, 0, 9), 9);
        due.is("count", x.head(2, 2), 10000);
        due.is("faulty still", x.head(2, 5), 1);
        due.is("tick", x.tick(0), 1);
        Look.sums(due, "nothing heard", x, 0, 0, 0);
    }
}
