/** Promises 1 to 4: a new object, told, section, head. */
public final class WhatIsSoTest {
    private static final Due due = new Due("WhatIsSoTest");
    private static final int[] WRONG_NUMBERS = {-1, Integer.MIN_VALUE, Integer.MAX_VALUE};

    public static void main(String[] args) {
        constants();
        newObject();
        refusals();
        setsOfSections();
        toldTogether();
        suspects();
        suspectsByTheLeast();
        leftAndRun();
        troubleAsItIsNow();
        enteredOnlyInSweep();
        due.end();
    }

    private static void constants() {
        due.is("NONE", AxleKeeper.NONE, -1);
        due.is("UNKNOWN", AxleKeeper.UNKNOWN, -1000000001);
        due.is("OUTSIDE", AxleKeeper.OUTSIDE, -1000000002);
        due.is("NOT", AxleKeeper.NOT, -1000000003);
        due.is("FULL", AxleKeeper.FULL, -1000000004);
    }

    private static void newObject() {
        AxleKeeper x = new AxleKeeper();
        int[] told = {3, 4, 0, 0, 7, 0, 0, 0, 0, 0, 0, 0, 0, 1000, 0, -1, 0};
        for (int what = 0; what < told.length; what++) due.is("new told(" + what + ")", x.told(what), told[what]);
        for (int s = 0; s < 3; s++) {
            int[] section = {0, 1000, 0, 0, 0, 4, 3 - s};
            for (int what = 0; what < section.length; what++) due.is("new section(" + s + ", " + what + ")", x.section(s, what), section[what]);
        }
        for (int h = 0; h < 4; h++) {
            int[] head = {0, 4, 10000, 0, 0, 0, 0, 0, h == 0 || h == 3 ? -1 : 2000, -1};
            for (int what = 0; what < head.length; what++) due.is("new head(" + h + ", " + what + ")", x.head(h, what), head[what]);
        }
        due.is("new seed(0)", x.seed(0), 0);
        due.is("new goBack(0)", x.goBack(0), AxleKeeper.NOT);
        due.is("new goBack(1)", x.goBack(1), AxleKeeper.NOT);
        due.is("new undo(1)", x.undo(1), AxleKeeper.NOT);
    }

    private static void refusals() {
        AxleKeeper x = new AxleKeeper();
        due.is("told(17)", x.told(17), AxleKeeper.OUTSIDE);
        due.is("section(3, 0)", x.section(3, 0), AxleKeeper.UNKNOWN);
        due.is("section(3, 7) is first unknown", x.section(3, 7), AxleKeeper.UNKNOWN);
        due.is("section(0, 7)", x.section(0, 7), AxleKeeper.OUTSIDE);
        due.is("head(4, 0)", x.head(4, 0), AxleKeeper.UNKNOWN);
        due.is("head(4, 10) is first unknown", x.head(4, 10), AxleKeeper.UNKNOWN);
        due.is("head(0, 10)", x.head(0, 10), AxleKeeper.OUTSIDE);
        for (int wrong : WRONG_NUMBERS) {
            due.is("told(" + wrong + ")", x.told(wrong), AxleKeeper.OUTSIDE);
            due.is("section(" + wrong + ", 0)", x.section(wrong, 0), AxleKeeper.UNKNOWN);
            due.is("section(0, " + wrong + ")", x.section(0, wrong), AxleKeeper.OUTSIDE);
            due.is("head(" + wrong + ", 0)", x.head(wrong, 0), AxleKeeper.UNKNOWN);
            due.is("head(0, " + wrong + ")", x.head(0, wrong), AxleKeeper.OUTSIDE);
        }
        x.line(6, true);
        due.is("ring of 6: section(5, 0)", x.section(5, 0), 0);
        due.is("ring of 6: section(6, 0)", x.section(6, 0), AxleKeeper.UNKNOWN);
        due.is("ring of 6: head(5, 0)", x.head(5, 0), 0);
        due.is("ring of 6: head(6, 0)", x.head(6, 0), AxleKeeper.UNKNOWN);
        x.line(6, false);
        due.is("row of 6: head(6, 0)", x.head(6, 0), 0);
        due.is("row of 6: head(7, 0)", x.head(7, 0), AxleKeeper.UNKNOWN);
    }

    private static void setsOfSections() {
        AxleKeeper x = new AxleKeeper();
        x.line(4, false);
        x.miss(0, 0, 3);
        x.go(4, 1, 2);
        x.feel(2, 3);
        x.tick(0);
        // 0 holds three missed axles, 1 and 2 have the head that is faulty, 3 two counted ones
        due.is("told(4) clear", x.told(4), 1);
        due.is("told(5) taken", x.told(5), 8);
        due.is("told(6) disturbed", x.told(6), 6);
        due.is("told(7) sweep", x.told(7), 0);
        due.is("told(8) wrongly clear", x.told(8), 1);
        due.is("told(9) idle", x.told(9), 6);
        due.is("told(10) faulty", x.told(10), 4);
        due.is("told(3) ticks", x.told(3), 1);
        x.reset(2);
        due.is("told(7) sweep behind reset", x.told(7), 4);
        due.is("told(6) disturbed behind reset", x.told(6), 2);
        x.repair(2);
        due.is("told(10) behind repair", x.told(10), 0);
        due.is("head(2, 6) was told so", x.head(2, 6), 1);
        due.is("head(2, 5) is repaired", x.head(2, 5), 0);
    }

    private static void toldTogether() {
        AxleKeeper x = new AxleKeeper();
        x.go(0, 0, 5);
        x.miss(3, 1, 4);
        due.is("told(12) true of all", x.told(12), 9);
        due.is("told(13) before a tick", x.told(13), 1000);
        x.tick(0);
        due.is("told(13) behind a tick", x.told(13), 1005);
        x.go(3, 0, 4);
        x.tick(0);
        due.is("told(13) with one below 0", x.told(13), 1001);
        due.is("told(12) at the end", x.told(12), 5);
        due.is("told(16) deeds", x.told(16), 5);
    }

    private static void suspects() {
        AxleKeeper x = new AxleKeeper();
        x.go(0, 0, 4);
        x.miss(1, 0, 4);
        x.go(2, 0, 3);
        due.is("no suspects ahead of the tick", x.told(11), 0);
        x.tick(0);
        // sums 4, -3, 3: three too few to the right by head 1, or too many by head 2
        due.is("section(1, 1)", x.section(1, 1), 997);
        due.is("told(11)", x.told(11), 6);
        due.is("head(0, 9)", x.head(0, 9), -1);
        due.is("head(1, 9)", x.head(1, 9), 13);
        due.is("head(2, 9)", x.head(2, 9), 7);
        due.is("head(3, 9)", x.head(3, 9), -1);
        x.reset(1);
        due.is("no suspects without a sum below 0", x.told(11), 0);
        due.is("head(1, 9) without", x.head(1, 9), -1);
    }

    private static void suspectsByTheLeast() {
        AxleKeeper x = new AxleKeeper();
        x.line(1, false);
        x.miss(0, 0, 9);
        x.go(1, 0, 8);
        x.tick(0);
        // -8 is left over as 8: that is not above 8
        due.is("one section: section(0, 1)", x.section(0, 1), 992);
        due.is("one section: told(11)", x.told(11), 3);
        due.is("one section: head(0, 9)", x.head(0, 9), 18);
        due.is("one section: head(1, 9)", x.head(1, 9), 2);
        x.go(1, 0, 1);
        x.tick(0);
        due.is("nine: head(0, 9)", x.head(0, 9), 19);
        due.is("nine: head(1, 9)", x.head(1, 9), 1);
        x.miss(0, 0, 1);
        x.go(1, 0, 1);
        x.tick(0);
        due.is("ten is too much: section(0, 1)", x.section(0, 1), 990);
        due.is("ten is too much: told(11)", x.told(11), 0);
        due.is("ten is too much: head(0, 9)", x.head(0, 9), -1);
    }

    private static void leftAndRun() {
        AxleKeeper x = new AxleKeeper();
        x.line(4, true);
        for (int s = 0; s < 4; s++) due.is("ring section(" + s + ", 6)", x.section(s, 6), 4);
        x.tick(1);
        x.tick(1 + 4);
        int[] left = {2, 3, 3, 2};
        for (int s = 0; s < 4; s++) due.is("ring section(" + s + ", 5)", x.section(s, 5), left[s]);
        x.tick(1);
        x.tick(1);
        due.is("ring section(0, 5) none left", x.section(0, 5), 0);
        due.is("ring section(3, 5) none left", x.section(3, 5), 0);
        due.is("ring section(1, 5)", x.section(1, 5), 4);
        int[] run = {0, 2, 1, 0};
        for (int s = 0; s < 4; s++) due.is("ring section(" + s + ", 6) with two disturbed", x.section(s, 6), run[s]);
        x.tick(1);
        due.is("ring section(0, 5) stays none", x.section(0, 5), 0);
        x.line(4, true);
        x.feel(2, 3);
        x.tick(0);
        int[] round = {1, 0, 0, 2};
        for (int s = 0; s < 4; s++) due.is("ring section(" + s + ", 6) round", x.section(s, 6), round[s]);
    }

    private static void troubleAsItIsNow() {
        AxleKeeper x = new AxleKeeper();
        x.feel(1, 3);
        due.is("faulty, not told: section(0, 3)", x.section(0, 3), 0);
        x.tick(0);
        due.is("told faulty: section(0, 3)", x.section(0, 3), 1);
        due.is("told faulty: section(1, 3)", x.section(1, 3), 1);
        due.is("told faulty: section(2, 3)", x.section(2, 3), 0);
        x.repair(1);
        due.is("repaired, not told: section(0, 3)", x.section(0, 3), 1);
        x.tick(0);
        due.is("repaired, told: section(0, 3)", x.section(0, 3), 0);
        due.is("repaired, told, disturbed still: section(0, 0)", x.section(0, 0), 2);
        for (int i = 0; i < 3; i++) x.tick(8);
        due.is("age 3: section(2, 3)", x.section(2, 3), 0);
        x.tick(8);
        due.is("age 4: section(2, 3)", x.section(2, 3), 1);
    }

    private static void enteredOnlyInSweep() {
        AxleKeeper x = new AxleKeeper();
        x.feel(3, 3);
        x.tick(0);
        x.repair(3);
        x.tick(0);
        x.reset(2);
        due.is("sweep: section(2, 4)", x.section(2, 4), 0);
        x.go(3, 1, 2);
        x.tick(0);
        due.is("entered: section(2, 4)", x.section(2, 4), 1);
        x.feel(3, 3);
        x.tick(0);
        due.is("disturbed again: section(2, 0)", x.section(2, 0), 2);
        due.is("disturbed again: section(2, 4)", x.section(2, 4), 0);
        x.reset(2);
        due.is("reset again: section(2, 4)", x.section(2, 4), 0);
    }
}
