/** The bounds and refusals that promises 1 to 19 name for their own calls. */
public final class BoundsCallsTest {
    private static final int NONE = AxleKeeper.NONE, UNKNOWN = AxleKeeper.UNKNOWN, OUTSIDE = AxleKeeper.OUTSIDE;
    private static final int NOT = AxleKeeper.NOT, FULL = AxleKeeper.FULL;
    private static final int MIN = Integer.MIN_VALUE, MAX = Integer.MAX_VALUE;

    public static void main(String[] args) {
        sentences().end("BoundsCallsTest");
    }

    static Sentences sentences() {
        Sentences all = new Sentences();
        whatIsSo(all);
        deeds(all);
        drawsAndUndone(all);
        bookAndImages(all);
        return all;
    }

    // ---- promises 1 to 4

    private static void whatIsSo(Sentences all) {
        all.add("1: 3 SECTIONS in a row, no axles", BoundsCallsTest::newObject)
            .add("2 told: 0 to 16, else OUTSIDE", BoundsCallsTest::told)
            .add("2 told(3): TICKS, 9999 at most", BoundsCallsTest::ticks)
            .add("2 told(13): SUMS together and 1000", BoundsCallsTest::sumsTogether)
            .add("2 told(15): WRONG of an empty BOOK", BoundsCallsTest::emptyBook)
            .add("2 told(16): how many can be undone, 0 to 16", BoundsCallsTest::canBeUndone)
            .add("3 section: 0 to 6, else OUTSIDE", BoundsCallsTest::section)
            .add("3 section: UNKNOWN", BoundsCallsTest::sectionUnknown)
            .add("3 section(s, 1): SUM and 1000, below 1000 too", BoundsCallsTest::sumOfSection)
            .add("3 section(s, 4): 0 unless SWEEP", BoundsCallsTest::enteredUnlessSweep)
            .add("4 head: 0 to 9, else OUTSIDE", BoundsCallsTest::head)
            .add("4 head: UNKNOWN", BoundsCallsTest::headUnknown)
            .add("4 head(h, 1): WHEEL and 4", BoundsCallsTest::wheel)
            .add("4 head(h, 8): NONE, not two unlike SECTIONS", BoundsCallsTest::jointNone)
            .add("4 head(h, 9): NONE, no SUSPECT", BoundsCallsTest::suspectNone);
    }

    private static void newObject(Due due) {
        AxleKeeper x = new AxleKeeper();
        int[] told = {3, 4, 0, 0, 7, 0, 0, 0, 0, 0, 0, 0, 0, 1000, 0, -1, 0};
        for (int what = 0; what < told.length; what++) due.is("told(" + what + ")", x.told(what), told[what]);
        for (int s = 0; s < 3; s++) {
            int[] section = {0, 1000, 0, 0, 0, 4, 3 - s};
            for (int what = 0; what < section.length; what++) due.is("section(" + s + ", " + what + ")", x.section(s, what), section[what]);
        }
        for (int h = 0; h < 4; h++) {
            int[] head = {0, 4, 10000, 0, 0, 0, 0, 0, h == 0 || h == 3 ? -1 : 2000, -1};
            for (int what = 0; what < head.length; what++) due.is("head(" + h + ", " + what + ")", x.head(h, what), head[what]);
        }
    }

    private static void told(Due due) {
        AxleKeeper x = Look.busy(0);
        int[] told = {4, 5, 0, 2, 0, 5, 2, 8, 0, 8, 16, 6, 6, 1003, 3, 2, 12};
        for (int what = 0; what < told.length; what++) due.is("told(" + what + ")", x.told(what), told[what]);
        for (int what : new int[] {-1, 17, 18, MIN, MAX}) due.is("told(" + what + ")", x.told(what), OUTSIDE);
    }

    /** Of 512 calls not one can come to 9999 ticks; the document names the bound all the same. */
    private static void ticks(Due due) {
        AxleKeeper x = new AxleKeeper();
        for (int i = 1; i <= 511; i++) x.drift(16);
        due.is("by 511 calls", x.told(3), 8176);
        for (int i = 512; i <= 624; i++) x.drift(16);
        due.is("by 624 calls", x.told(3), 9984);
        x.drift(14);
        due.is("9998", x.told(3), 9998);
        x.tick(0);
        due.is("9999", x.told(3), 9999);
        x.tick(0);
        due.is("9999 at most", x.told(3), 9999);
    }

    private static void sumsTogether(Due due) {
        AxleKeeper x = new AxleKeeper();
        due.is("none", x.told(13), 1000);
        Look.feltLeft(x, 0);
        x.tick(0);
        due.is("one below", x.told(13), 999);
        Look.feltLeft(x, 3);
        Look.feltLeft(x, 3);
        x.tick(0);
        due.is("one above", x.told(13), 1001);
        Look.feltLeft(x, 1);
        x.tick(0);
        due.is("between sections nothing is lost", x.told(13), 1001);
    }

    private static void emptyBook(Due due) {
        AxleKeeper x = new AxleKeeper();
        due.is("no entries", x.told(14), 0);
        due.is("none wrong", x.told(15), NONE);
    }

    private static void canBeUndone(Due due) {
        AxleKeeper x = new AxleKeeper();
        for (int i = 0; i <= 20; i++) {
            due.is(i + " deeds", x.told(16), Math.min(i, 16));
            x.tick(0);
        }
    }

    private static void section(Due due) {
        AxleKeeper x = Look.busy(0);
        int[][] sections = {{1, 1003, 3, 0, 0, 3, 0}, {2, 999, 2, 1, 0, 4, 0}, {1, 1001, 1, 0, 0, 4, 0}, {3, 1000, 0, 1, 0, 4, 0}};
        for (int s = 0; s < 4; s++) {
            for (int what = 0; what <= 6; what++) due.is("section(" + s + ", " + what + ")", x.section(s, what), sections[s][what]);
            for (int what : new int[] {-1, 7, 8, MIN, MAX}) due.is("section(" + s + ", " + what + ")", x.section(s, what), OUTSIDE);
        }
    }

    private static void sectionUnknown(Due due) {
        for (int n = 1; n <= 6; n++) {
            AxleKeeper x = Look.row(n);
            for (int what = 0; what <= 6; what++) {
                due.so("the last", x.section(n - 1, what) >= 0);
                for (int s : new int[] {-1, n, n + 1, MIN, MAX}) due.is("section(" + s + ", " + what + ")", x.section(s, what), UNKNOWN);
            }
        }
    }

    private static void sumOfSection(Due due) {
        AxleKeeper x = Look.row(1);
        for (int i = 1; i <= 165; i++) {
            x.miss(0, 0, 7);
            x.go(0, 1, 7);
            x.tick(0);
            if (i == 1) due.is("seven below", x.section(0, 1), 993);
        }
        due.is("far below", x.section(0, 1), 1000 - 165 * 7);
        AxleKeeper y = Look.row(1);
        for (int i = 1; i <= 200; i++) {
            y.go(0, 0, 8);
            y.tick(0);
        }
        due.is("far above", y.section(0, 1), 1000 + 200 * 8);
    }

    private static void enteredUnlessSweep(Due due) {
        AxleKeeper x = Look.row(1);
        Look.ticks(x, 1, 4);
        x.tick(0);
        due.is("disturbed", x.section(0, 4), 0);
        x.reset(0);
        due.is("reset", x.section(0, 4), 0);
        x.go(0, 0, 1);
        x.tick(0);
        due.is("entered", x.section(0, 4), 1);
        AxleKeeper y = Look.row(1);
        Look.ticks(y, 1, 4);
        y.tick(0);
        y.reset(0);
        y.go(0, 0, 1);
        y.tick(0);
        y.go(0, 1, 1);
        y.tick(0);
        due.is("clear", y.section(0, 4), 0);
        y.go(0, 0, 1);
        y.tick(0);
        due.is("taken", y.section(0, 4), 0);
        Look.ticks(x, 1, 4);
        due.is("disturbed again", x.section(0, 4), 0);
    }

    private static void head(Due due) {
        AxleKeeper x = Look.busy(0);
        int[][] heads = {
            {0, 4, 10005, 3, 1, 0, 0, 0, -1, -1}, {0, 4, 10000, 0, 0, 0, 0, 1, 2002, 11}, {0, 4, 10001, 1, 0, 0, 0, 0, 2000, 9},
            {2, 5, 10000, 0, 0, 0, 0, 1, 2001, -1}, {0, 4, 10000, 0, 0, 1, 1, 0, -1, -1}};
        for (int h = 0; h < 5; h++) {
            for (int what = 0; what <= 9; what++) due.is("head(" + h + ", " + what + ")", x.head(h, what), heads[h][what]);
            for (int what : new int[] {-1, 10, 11, MIN, MAX}) due.is("head(" + h + ", " + what + ")", x.head(h, what), OUTSIDE);
        }
    }

    private static void headUnknown(Due due) {
        for (int n = 1; n <= 6; n++) {
            AxleKeeper x = Look.row(n);
            for (int h : new int[] {-1, n + 1, n + 2, MIN, MAX}) {
                for (int what = 0; what <= 9; what++) due.is("head(" + h + ", " + what + ")", x.head(h, what), UNKNOWN);
            }
            due.is("the last", x.head(n, 0), 0);
        }
    }

    private static void wheel(Due due) {
        for (int places = -3; places <= 3; places++) {
            AxleKeeper x = new AxleKeeper();
            Look.wheelAt(x, 0, places);
            due.is("at " + places, x.head(0, 1), places + 4);
        }
    }

    private static void jointNone(Due due) {
        AxleKeeper one = Look.row(1);
        due.is("row of 1: head 0", one.head(0, 8), NONE);
        due.is("row of 1: head 1", one.head(1, 8), NONE);
        AxleKeeper two = Look.row(2);
        due.is("row of 2: head 0", two.head(0, 8), NONE);
        due.is("row of 2: head 1", two.head(1, 8), 2000);
        due.is("row of 2: head 2", two.head(2, 8), NONE);
        AxleKeeper ring = Look.ring(2);
        due.is("ring of 2: head 0", ring.head(0, 8), 2000);
        due.is("ring of 2: head 1", ring.head(1, 8), 2000);
    }

    private static void suspectNone(Due due) {
        AxleKeeper x = new AxleKeeper();
        for (int h = 0; h < 4; h++) due.is("no sum below 0: head " + h, x.head(h, 9), NONE);
        Look.feltLeft(x, 0);
        x.tick(0);
        due.is("head 0 could", x.head(0, 9), 11);
        due.is("head 1 could not: section 1 has nothing", x.head(1, 9), NONE);
        due.is("head 3 is not of that section", x.head(3, 9), NONE);
    }

    // ---- promises 5 to 11

    private static void deeds(Sentences all) {
        all.add("5 line: N 1 to 6 in a row, else OUTSIDE", BoundsCallsTest::lineInARow)
            .add("5 line: a RING of 2 at least, 6 at most, else OUTSIDE", BoundsCallsTest::lineInARing)
            .add("5 line: all is as at first", BoundsCallsTest::lineAsAtFirst)
            .add("5 line: THE BOOK is empty", BoundsCallsTest::lineEmptiesTheBook)
            .add("6 feel: STATE v 0 to 3, else OUTSIDE", BoundsCallsTest::feelBounds)
            .add("6 feel: UNKNOWN", BoundsCallsTest::feelUnknown)
            .add("6 feel: 0 nothing WENT, 1 RIGHT, 2 LEFT, 3 FAULTY by it", BoundsCallsTest::feelAnswers)
            .add("6 feel: NOT, it is FAULTY", BoundsCallsTest::feelFaulty)
            .add("6 feel: NOT, it is in that STATE", BoundsCallsTest::feelSame)
            .add("7 go: n 1 to 9, else OUTSIDE", BoundsCallsTest::goNumbers)
            .add("7 go: side 0, 1, else OUTSIDE", BoundsCallsTest::goSides)
            .add("7 go: UNKNOWN", BoundsCallsTest::goUnknown)
            .add("7 go: TRUE where they go (0: OUT)", BoundsCallsTest::goAnswers)
            .add("7 go: NOT, there are not so many", BoundsCallsTest::goTooMany)
            .add("7 go: NOT, the HEAD is FAULTY", BoundsCallsTest::goFaulty)
            .add("7 go: NOT, the HEAD is not in STATE 0", BoundsCallsTest::goNotInStateZero)
            .add("8 miss: n 1 to 9, side 0, 1, else OUTSIDE", BoundsCallsTest::missBounds)
            .add("8 miss: UNKNOWN", BoundsCallsTest::missUnknown)
            .add("8 miss: whatever the HEAD is", BoundsCallsTest::missWhatever)
            .add("8 miss: NOT, there are not so many", BoundsCallsTest::missTooMany)
            .add("9 tick: UNKNOWN", BoundsCallsTest::tickUnknown)
            .add("9 tick: CLEAR SECTIONS (a SET)", BoundsCallsTest::tickAnswers)
            .add("10 reset: UNKNOWN", BoundsCallsTest::resetUnknown)
            .add("10 reset: NOT, it is not DISTURBED", BoundsCallsTest::resetNot)
            .add("10 reset: what SUM was, and 1000", BoundsCallsTest::resetAnswers)
            .add("11 repair: UNKNOWN", BoundsCallsTest::repairUnknown)
            .add("11 repair: NOT, it is not FAULTY", BoundsCallsTest::repairNot)
            .add("11 repair: 1 it was in STATE 0, 0 not", BoundsCallsTest::repairAnswers);
    }

    private static void lineInARow(Due due) {
        for (int n : new int[] {MIN, -1, 0, 7, 8, MAX}) {
            AxleKeeper x = new AxleKeeper();
            due.is("line(" + n + ", false)", x.line(n, false), OUTSIDE);
            due.is("sections", x.told(0), 3);
            due.is("no deed", x.told(16), 0);
        }
        for (int n = 1; n <= 6; n++) due.is("line(" + n + ", false)", new AxleKeeper().line(n, false), n + 1);
    }

    private static void lineInARing(Due due) {
        for (int n : new int[] {MIN, -1, 0, 1, 7, 8, MAX}) {
            AxleKeeper x = new AxleKeeper();
            due.is("line(" + n + ", true)", x.line(n, true), OUTSIDE);
            due.is("no ring", x.told(2), 0);
            due.is("no deed", x.told(16), 0);
        }
        for (int n = 2; n <= 6; n++) {
            AxleKeeper x = new AxleKeeper();
            due.is("line(" + n + ", true)", x.line(n, true), n);
            due.is("a ring", x.told(2), 1);
            due.is("a row again", x.line(n, false), n + 1);
            due.is("no ring", x.told(2), 0);
        }
    }

    private static void lineAsAtFirst(Due due) {
        for (int n = 1; n <= 6; n++) {
            AxleKeeper x = Look.busy(0);
            due.is("line(" + n + ", false)", x.line(n, false), n + 1);
            asAtFirst(due, "row of " + n, x, n, false);
            if (n == 1) continue;
            AxleKeeper y = Look.busy(0);
            due.is("line(" + n + ", true)", y.line(n, true), n);
            asAtFirst(due, "ring of " + n, y, n, true);
        }
    }

    private static void asAtFirst(Due due, String when, AxleKeeper x, int n, boolean ring) {
        int heads = ring ? n : n + 1;
        int[] told = {n, heads, ring ? 1 : 0, 0, (1 << n) - 1, 0, 0, 0, 0, 0, 0, 0, 0, 1000, 0, -1};
        for (int what = 0; what < told.length; what++) due.is(when + ": told(" + what + ")", x.told(what), told[what]);
        for (int s = 0; s < n; s++) {
            int[] section = {0, 1000, 0, 0, 0, 4, ring ? n : n - s};
            for (int what = 0; what < section.length; what++) due.is(when + ": section(" + s + ", " + what + ")", x.section(s, what), section[what]);
        }
        for (int h = 0; h < heads; h++) {
            int[] head = {0, 4, 10000, 0, 0, 0, 0, 0, !ring && (h == 0 || h == n) ? -1 : 2000, -1};
            for (int what = 0; what < head.length; what++) due.is(when + ": head(" + h + ", " + what + ")", x.head(h, what), head[what]);
        }
    }

    private static void lineEmptiesTheBook(Due due) {
        AxleKeeper x = new AxleKeeper();
        for (int i = 0; i < 20; i++) x.write(0, 0);
        due.is("refused it stays", x.line(7, false), OUTSIDE);
        due.is("entries", x.told(14), 20);
        x.line(3, false);
        due.is("entries", x.told(14), 0);
        due.is("write", x.write(2, 0), 1);
    }

    private static void feelBounds(Due due) {
        AxleKeeper x = new AxleKeeper();
        for (int v : new int[] {MIN, -1, 4, 5, MAX}) due.is("feel(0, " + v + ")", x.feel(0, v), OUTSIDE);
        due.is("no deed", x.told(16), 0);
        for (int v = 1; v <= 3; v++) due.so("feel(0, " + v + ")", new AxleKeeper().feel(0, v) >= 0);
        x.feel(0, 2);
        due.is("feel(0, 0)", x.feel(0, 0), 0);
    }

    private static void feelUnknown(Due due) {
        for (int n = 1; n <= 6; n++) {
            for (int h : new int[] {MIN, -1, n + 1, MAX}) due.is("row of " + n + ": feel(" + h + ", 1)", Look.row(n).feel(h, 1), UNKNOWN);
            due.is("row of " + n + ": the last", Look.row(n).feel(n, 1), 0);
            if (n > 1) due.is("ring of " + n + ": feel(" + n + ", 1)", Look.ring(n).feel(n, 1), UNKNOWN);
        }
    }

    private static void feelAnswers(Due due) {
        AxleKeeper x = new AxleKeeper();
        for (int v : new int[] {2, 3, 1}) due.is("right feel(0, " + v + ")", x.feel(0, v), 0);
        due.is("went right", x.feel(0, 0), 1);
        for (int v : new int[] {1, 3, 2}) due.is("left feel(0, " + v + ")", x.feel(0, v), 0);
        due.is("went left", x.feel(0, 0), 2);
        due.is("there", x.feel(0, 2), 0);
        due.is("and back", x.feel(0, 0), 0);
        due.is("faulty by it", x.feel(0, 3), 3);
    }

    private static void feelFaulty(Due due) {
        AxleKeeper x = new AxleKeeper();
        x.feel(0, 3);
        for (int v = 0; v <= 3; v++) due.is("feel(0, " + v + ")", x.feel(0, v), NOT);
        due.is("another head", x.feel(1, 2), 0);
        x.repair(0);
        due.is("repaired", x.feel(0, 2), 0);
    }

    private static void feelSame(Due due) {
        for (int places = -3; places <= 3; places++) {
            AxleKeeper x = new AxleKeeper();
            Look.wheelAt(x, 0, places);
            int deeds = x.told(16);
            due.is("at " + places, x.feel(0, x.head(0, 0)), NOT);
            due.is("not faulty by it", x.head(0, 5), 0);
            due.is("no deed", x.told(16), deeds);
        }
    }

    private static void goNumbers(Due due) {
        AxleKeeper x = new AxleKeeper();
        for (int n : new int[] {MIN, -1, 0, 10, 11, MAX}) due.is("go(0, 0, " + n + ")", x.go(0, 0, n), OUTSIDE);
        due.is("none went", x.told(12), 0);
        due.is("go(0, 0, 1)", x.go(0, 0, 1), 1);
        due.is("go(0, 0, 9)", x.go(0, 0, 9), 10);
    }

    private static void goSides(Due due) {
        AxleKeeper x = new AxleKeeper();
        for (int side : new int[] {MIN, -1, 2, 3, MAX}) due.is("go(0, " + side + ", 1)", x.go(0, side, 1), OUTSIDE);
        due.is("go(0, 0, 2)", x.go(0, 0, 2), 2);
        due.is("go(0, 1, 2)", x.go(0, 1, 2), 0);
    }

    private static void goUnknown(Due due) {
        for (int n = 1; n <= 6; n++) {
            for (int h : new int[] {MIN, -1, n + 1, MAX}) due.is("row of " + n + ": go(" + h + ", 1, 1)", Look.row(n).go(h, 1, 1), UNKNOWN);
            due.is("row of " + n + ": the last", Look.row(n).go(n, 1, 1), 1);
            if (n > 1) due.is("ring of " + n + ": go(" + n + ", 1, 1)", Look.ring(n).go(n, 1, 1), UNKNOWN);
        }
    }

    private static void goAnswers(Due due) {
        AxleKeeper x = Look.row(2);
        due.is("from out", x.go(0, 0, 4), 4);
        due.is("on", x.go(1, 0, 3), 3);
        due.is("on again", x.go(1, 0, 1), 4);
        due.is("back", x.go(1, 1, 2), 2);
        due.is("to out at the right", x.go(2, 0, 2), 0);
        due.is("to out at the left", x.go(0, 1, 1), 0);
        due.is("left", x.told(12), 1);
    }

    private static void goTooMany(Due due) {
        AxleKeeper x = Look.row(2);
        due.is("of none", x.go(1, 0, 1), NOT);
        x.go(0, 0, 4);
        due.is("five of four", x.go(1, 0, 5), NOT);
        due.is("five of four to out", x.go(0, 1, 5), NOT);
        due.is("four of four", x.go(1, 0, 4), 4);
        due.is("five of four to the left", x.go(1, 1, 5), NOT);
        due.is("four of four to out", x.go(2, 0, 4), 0);
        due.is("one of none", x.go(2, 0, 1), NOT);
    }

    private static void goFaulty(Due due) {
        AxleKeeper x = new AxleKeeper();
        x.feel(0, 3);
        due.is("state 0", x.head(0, 0), 0);
        due.is("go(0, 0, 1)", x.go(0, 0, 1), NOT);
        due.is("none went", x.told(12), 0);
        due.is("over another", x.go(3, 1, 1), 1);
        x.repair(0);
        due.is("repaired", x.go(0, 0, 1), 1);
    }

    private static void goNotInStateZero(Due due) {
        for (int places = -3; places <= 3; places++) {
            AxleKeeper x = new AxleKeeper();
            Look.wheelAt(x, 0, places);
            due.is("at " + places, x.go(0, 0, 1), places == 0 ? 1 : NOT);
            due.is("true", x.told(12), places == 0 ? 1 : 0);
        }
    }

    private static void missBounds(Due due) {
        AxleKeeper x = new AxleKeeper();
        for (int n : new int[] {MIN, -1, 0, 10, 11, MAX}) due.is("miss(0, 0, " + n + ")", x.miss(0, 0, n), OUTSIDE);
        for (int side : new int[] {MIN, -1, 2, 3, MAX}) due.is("miss(0, " + side + ", 1)", x.miss(0, side, 1), OUTSIDE);
        due.is("none went", x.told(12), 0);
        due.is("miss(0, 0, 1)", x.miss(0, 0, 1), 1);
        due.is("miss(0, 0, 9)", x.miss(0, 0, 9), 10);
        due.is("miss(0, 1, 9)", x.miss(0, 1, 9), 0);
        due.is("true", x.told(12), 1);
    }

    private static void missUnknown(Due due) {
        for (int n = 1; n <= 6; n++) {
            for (int h : new int[] {MIN, -1, n + 1, MAX}) due.is("row of " + n + ": miss(" + h + ", 1, 1)", Look.row(n).miss(h, 1, 1), UNKNOWN);
            due.is("row of " + n + ": the last", Look.row(n).miss(n, 1, 1), 1);
            if (n > 1) due.is("ring of " + n + ": miss(" + n + ", 1, 1)", Look.ring(n).miss(n, 1, 1), UNKNOWN);
        }
    }

    private static void missWhatever(Due due) {
        for (int places = -3; places <= 3; places++) {
            AxleKeeper x = new AxleKeeper();
            Look.wheelAt(x, 0, places);
            due.is("at " + places, x.miss(0, 0, 1), 1);
            x.feel(0, 3 - x.head(0, 0));
            due.is("faulty at " + places, x.miss(0, 0, 1), 2);
            due.is("count", x.head(0, 2), 10000);
            due.is("places", x.head(0, 1), places + 4);
        }
    }

    private static void missTooMany(Due due) {
        AxleKeeper x = Look.row(2);
        due.is("of none", x.miss(1, 0, 1), NOT);
        x.miss(0, 0, 4);
        due.is("five of four", x.miss(1, 0, 5), NOT);
        due.is("four of four", x.miss(1, 0, 4), 4);
        due.is("five of four to the left", x.miss(1, 1, 5), NOT);
        due.is("four of four to out", x.miss(2, 0, 4), 0);
    }

    private static void tickUnknown(Due due) {
        for (int n = 1; n <= 6; n++) {
            AxleKeeper x = Look.row(n);
            due.is("row of " + n, x.tick(1 << n + 1), UNKNOWN);
            due.is("row of " + n + ", with others", x.tick((1 << n + 2) - 1), UNKNOWN);
            due.is("below 0", x.tick(-1), UNKNOWN);
            due.is("far below 0", x.tick(MIN), UNKNOWN);
            due.is("no tick", x.told(3), 0);
            due.is("the last", x.tick(1 << n), (1 << n) - 1);
            due.is("its age", x.head(n, 4), 1);
            if (n > 1) due.is("ring of " + n, Look.ring(n).tick(1 << n), UNKNOWN);
        }
    }

    private static void tickAnswers(Due due) {
        AxleKeeper x = Look.row(6);
        due.is("all", x.tick(0), 63);
        x.go(0, 0, 1);
        x.go(6, 1, 1);
        due.is("not the first, not the last", x.tick(0), 30);
        Look.ticks(x, 127, 3);
        due.is("none", x.tick(127), 0);
    }

    private static void resetUnknown(Due due) {
        for (int n = 1; n <= 6; n++) {
            AxleKeeper x = Look.row(n);
            Look.ticks(x, 1 << n, 4);
            for (int s : new int[] {MIN, -1, n, MAX}) due.is("row of " + n + ": reset(" + s + ")", x.reset(s), UNKNOWN);
            due.is("the last", x.reset(n - 1), 1000);
        }
    }

    private static void resetNot(Due due) {
        AxleKeeper x = new AxleKeeper();
        due.is("clear", x.reset(0), NOT);
        x.go(0, 0, 1);
        x.tick(0);
        due.is("taken", x.reset(0), NOT);
        x.feel(0, 3);
        due.is("faulty, not told", x.reset(0), NOT);
        x.tick(0);
        due.is("disturbed", x.reset(0), 1001);
        due.is("sweep", x.reset(0), NOT);
        due.is("beside it", x.reset(1), NOT);
    }

    private static void resetAnswers(Due due) {
        for (int n = 0; n <= 7; n++) {
            AxleKeeper above = Look.row(1);
            if (n > 0) above.go(0, 0, n);
            above.feel(1, 3);
            above.tick(0);
            due.is("sum " + n, above.reset(0), 1000 + n);
            AxleKeeper below = Look.row(1);
            if (n > 0) below.miss(0, 0, n);
            if (n > 0) below.go(0, 1, n);
            below.feel(1, 3);
            below.tick(0);
            due.is("sum -" + n, below.reset(0), 1000 - n);
        }
    }

    private static void repairUnknown(Due due) {
        for (int n = 1; n <= 6; n++) {
            AxleKeeper x = Look.row(n);
            for (int h = 0; h <= n; h++) x.feel(h, 3);
            for (int h : new int[] {MIN, -1, n + 1, MAX}) due.is("row of " + n + ": repair(" + h + ")", x.repair(h), UNKNOWN);
            due.is("the last", x.repair(n), 1);
            due.is("the others", x.told(10), (1 << n) - 1);
        }
    }

    private static void repairNot(Due due) {
        AxleKeeper x = new AxleKeeper();
        due.is("never", x.repair(0), NOT);
        x.feel(0, 2);
        due.is("in state 2", x.repair(0), NOT);
        due.is("state", x.head(0, 0), 2);
        x.feel(0, 1);
        due.is("faulty", x.repair(0), 0);
        due.is("repaired", x.repair(0), NOT);
        x.feel(0, 3);
        x.tick(0);
        x.repair(0);
        due.is("told so still", x.head(0, 6), 1);
        due.is("but it is not", x.repair(0), NOT);
    }

    private static void repairAnswers(Due due) {
        for (int places = -3; places <= 3; places++) {
            AxleKeeper x = new AxleKeeper();
            Look.wheelAt(x, 2, places);
            x.feel(2, 3 - x.head(2, 0));
            due.is("at " + places, x.repair(2), places == 0 ? 1 : 0);
        }
    }

    // ---- promises 12 to 14, 17

    private static void drawsAndUndone(Sentences all) {
        all.add("12 drift: 1 to 16, else OUTSIDE", BoundsCallsTest::driftBounds)
            .add("12 drift: CLEAR SECTIONS (a SET)", BoundsCallsTest::driftAnswers)
            .add("13 undo: 1 to 16, else OUTSIDE", BoundsCallsTest::undoBounds)
            .add("13 undo: NOT, not so many", BoundsCallsTest::undoTooMany)
            .add("13 undo: how many more can be", BoundsCallsTest::undoAnswers)
            .add("14 would: UNKNOWN", BoundsCallsTest::wouldUnknown)
            .add("17 seed: 0 to 2147483647, else OUTSIDE", BoundsCallsTest::seedBounds)
            .add("17 seed: what it was", BoundsCallsTest::seedAnswers);
    }

    private static void driftBounds(Due due) {
        AxleKeeper x = new AxleKeeper();
        for (int n : new int[] {MIN, -1, 0, 17, 18, MAX}) due.is("drift(" + n + ")", x.drift(n), OUTSIDE);
        due.is("no tick", x.told(3), 0);
        due.is("no draw", x.seed(0), 0);
        x.drift(1);
        due.is("one", x.told(3), 1);
        x.drift(16);
        due.is("sixteen more", x.told(3), 17);
    }

    private static void driftAnswers(Due due) {
        for (int n = 1; n <= 6; n++) {
            AxleKeeper x = Look.row(n);
            x.seed(n);
            for (int times = 1; times <= 16; times++) due.is("row of " + n, x.drift(times), x.told(4));
        }
        AxleKeeper y = Look.row(6);
        y.seed(Drawn.seedOf(7, d -> d.head() == 6 && d.side() == 1 && d.fourth() == 9));
        due.is("one comes into section 5", y.drift(1), 31);
    }

    private static void undoBounds(Due due) {
        AxleKeeper x = new AxleKeeper();
        for (int i = 0; i < 20; i++) x.go(0, 0, 1);
        for (int n : new int[] {MIN, -1, 0, 17, 18, MAX}) due.is("undo(" + n + ")", x.undo(n), OUTSIDE);
        due.is("none undone", x.told(12), 20);
        due.is("undo(16)", x.undo(16), 0);
        due.is("sixteen undone", x.told(12), 4);
        x.go(0, 0, 1);
        due.is("undo(1)", x.undo(1), 0);
        due.is("one undone", x.told(12), 4);
    }

    private static void undoTooMany(Due due) {
        AxleKeeper x = new AxleKeeper();
        for (int n = 1; n <= 16; n++) due.is("undo(" + n + ") of none", x.undo(n), NOT);
        for (int i = 1; i <= 15; i++) {
            x.go(0, 0, 1);
            due.is("undo(" + (i + 1) + ") of " + i, x.undo(i + 1), NOT);
            due.is("none undone", x.told(12), i);
        }
        due.is("undo(15) of 15", x.undo(15), 0);
        due.is("undo(1) of none", x.undo(1), NOT);
    }

    private static void undoAnswers(Due due) {
        for (int n = 1; n <= 16; n++) {
            AxleKeeper x = new AxleKeeper();
            for (int i = 0; i < 16; i++) x.go(0, 0, 1);
            due.is("undo(" + n + ") of 16", x.undo(n), 16 - n);
            due.is("can be undone", x.told(16), 16 - n);
            due.is("true", x.told(12), 16 - n);
        }
    }

    private static void wouldUnknown(Due due) {
        for (int n = 1; n <= 6; n++) {
            AxleKeeper x = Look.row(n);
            due.is("row of " + n, x.would(1 << n + 1), UNKNOWN);
            due.is("below 0", x.would(-1), UNKNOWN);
            due.is("far below 0", x.would(MIN), UNKNOWN);
            due.is("the last", x.would(1 << n), (1 << n) - 1);
            if (n > 1) due.is("ring of " + n, Look.ring(n).would(1 << n), UNKNOWN);
        }
    }

    private static void seedBounds(Due due) {
        AxleKeeper x = new AxleKeeper();
        due.is("seed(2147483647)", x.seed(MAX), 0);
        due.is("seed(-1)", x.seed(-1), OUTSIDE);
        due.is("seed(MIN)", x.seed(MIN), OUTSIDE);
        due.is("seed(0)", x.seed(0), MAX);
        due.is("it is 0", x.seed(1), 0);
    }

    private static void seedAnswers(Due due) {
        AxleKeeper x = new AxleKeeper();
        int was = 0;
        for (int v : new int[] {7, 0, MAX, 1, MAX - 1}) {
            due.is("seed(" + v + ")", x.seed(v), was);
            was = v;
        }
        due.is("no deed", x.told(16), 0);
    }

    // ---- promises 15, 16, 18, 19

    private static void bookAndImages(Sentences all) {
        all.add("15 write: UNKNOWN", BoundsCallsTest::writeUnknown)
            .add("15 write: CALL 0 to 3, else OUTSIDE", BoundsCallsTest::writeBounds)
            .add("15 write: FULL (20)", BoundsCallsTest::writeFull)
            .add("15 write: how many", BoundsCallsTest::writeAnswers)
            .add("16 tear: how much it had, of an empty one 0", BoundsCallsTest::tear)
            .add("18 keep: UNKNOWN", BoundsCallsTest::keepUnknown)
            .add("18 keep: nothing can be undone then", BoundsCallsTest::keepForgets)
            .add("19 goBack: UNKNOWN", BoundsCallsTest::goBackUnknown)
            .add("19 goBack: NOT, it was not kept", BoundsCallsTest::goBackNot)
            .add("19 goBack: nothing can be undone then", BoundsCallsTest::goBackForgets);
    }

    private static void writeUnknown(Due due) {
        for (int n = 1; n <= 6; n++) {
            AxleKeeper x = Look.row(n);
            for (int s : new int[] {MIN, -1, n, MAX}) due.is("row of " + n + ": write(" + s + ", 0)", x.write(s, 0), UNKNOWN);
            due.is("no entry", x.told(14), 0);
            due.is("the last", x.write(n - 1, 0), 1);
        }
    }

    private static void writeBounds(Due due) {
        AxleKeeper x = new AxleKeeper();
        for (int call : new int[] {MIN, -1, 4, 5, MAX}) due.is("write(0, " + call + ")", x.write(0, call), OUTSIDE);
        due.is("no entry", x.told(14), 0);
        for (int call = 0; call <= 3; call++) due.is("write(0, " + call + ")", x.write(0, call), call + 1);
    }

    private static void writeFull(Due due) {
        AxleKeeper x = new AxleKeeper();
        for (int i = 1; i <= 19; i++) x.write(0, 0);
        due.is("the 20th", x.write(2, 1), 20);
        due.is("the 21st", x.write(1, 0), FULL);
        due.is("the 22nd", x.write(1, 0), FULL);
        due.is("the 20th is there", x.told(15), 19);
    }

    private static void writeAnswers(Due due) {
        AxleKeeper x = new AxleKeeper();
        for (int i = 1; i <= 20; i++) {
            due.is("entry " + i, x.write(1, 0), i);
            due.is("entries", x.told(14), i);
        }
    }

    private static void tear(Due due) {
        AxleKeeper x = new AxleKeeper();
        due.is("empty", x.tear(), 0);
        for (int many : new int[] {1, 5, 20}) {
            for (int i = 0; i < many; i++) x.write(0, 1);
            due.is("with " + many, x.tear(), many);
            due.is("no entries", x.told(14), 0);
            due.is("none wrong", x.told(15), NONE);
            due.is("again", x.tear(), 0);
        }
    }

    private static void keepUnknown(Due due) {
        AxleKeeper x = new AxleKeeper();
        x.go(0, 0, 1);
        for (int i : new int[] {MIN, -1, 2, 3, MAX}) due.is("keep(" + i + ")", x.keep(i), UNKNOWN);
        due.is("can be undone", x.told(16), 1);
        due.is("keep(0)", x.keep(0), 1);
        due.is("keep(1)", x.keep(1), 1);
    }

    private static void keepForgets(Due due) {
        for (int i = 0; i < 2; i++) {
            AxleKeeper x = new AxleKeeper();
            for (int deeds = 0; deeds < 20; deeds++) x.go(0, 0, 1);
            due.is("keep(" + i + ")", x.keep(i), 1);
            due.is("can be undone", x.told(16), 0);
            due.is("undo(1)", x.undo(1), NOT);
            due.is("true", x.told(12), 20);
        }
    }

    private static void goBackUnknown(Due due) {
        AxleKeeper x = new AxleKeeper();
        x.keep(0);
        x.keep(1);
        x.go(0, 0, 1);
        for (int i : new int[] {MIN, -1, 2, 3, MAX}) due.is("goBack(" + i + ")", x.goBack(i), UNKNOWN);
        due.is("can be undone", x.told(16), 1);
        due.is("true", x.told(12), 1);
    }

    private static void goBackNot(Due due) {
        for (int i = 0; i < 2; i++) {
            AxleKeeper x = new AxleKeeper();
            x.go(0, 0, 1);
            due.is("goBack(" + i + ")", x.goBack(i), NOT);
            x.keep(1 - i);
            x.go(0, 0, 1);
            due.is("the other is kept: goBack(" + i + ")", x.goBack(i), NOT);
            due.is("true", x.told(12), 2);
            due.is("can be undone", x.told(16), 1);
            x.keep(i);
            due.is("kept", x.goBack(i), 1);
        }
    }

    private static void goBackForgets(Due due) {
        AxleKeeper x = new AxleKeeper();
        x.keep(0);
        for (int deeds = 0; deeds < 20; deeds++) x.go(0, 0, 1);
        due.is("goBack(0)", x.goBack(0), 1);
        due.is("can be undone", x.told(16), 0);
        due.is("undo(1)", x.undo(1), NOT);
        due.is("true", x.told(12), 0);
    }
}
