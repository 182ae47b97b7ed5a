/** The boundary cases of section 3 of the document: what is ASKED, THE BOOK, BY DRAWS, UNDONE, IMAGES. */
public final class BoundsAskedTest {
    private static final int NONE = AxleKeeper.NONE, OUTSIDE = AxleKeeper.OUTSIDE, NOT = AxleKeeper.NOT, FULL = AxleKeeper.FULL;

    public static void main(String[] args) {
        sentences().end("BoundsAskedTest");
    }

    static Sentences sentences() {
        Sentences all = new Sentences();
        asked(all);
        book(all);
        draws(all);
        undone(all);
        return all;
    }

    // ---- what is asked

    private static void asked(Sentences all) {
        all.add("ASKED, nothing changes by it", BoundsAskedTest::nothingChanges)
            .add("WRONGLY CLEAR: CLEAR with TRUE above 0", BoundsAskedTest::wronglyClear)
            .add("IDLE: not CLEAR with TRUE 0", BoundsAskedTest::idle)
            .add("SUSPECTS: a number of -9 .. 9", BoundsAskedTest::upToNine)
            .add("SUSPECTS: added at its right, taken at its left, no SUM below 0", BoundsAskedTest::noOtherBelow)
            .add("BY HOW MUCH: that nearest to 0", BoundsAskedTest::nearest)
            .add("SUSPECTS if there is a SUM below 0, else none", BoundsAskedTest::elseNone)
            .add("WOULD: CLEAR behind a TICK", BoundsAskedTest::would)
            .add("LEFT: until it has AGE above 3", BoundsAskedTest::left)
            .add("LEFT: 0 if it has", BoundsAskedTest::noneLeft)
            .add("LEFT: the least of its HEADS", BoundsAskedTest::leastLeft)
            .add("RUN: 0, if it is not CLEAR", BoundsAskedTest::noRun)
            .add("RUN: from it on to the right, one behind the other", BoundsAskedTest::run)
            .add("RUN: in a RING N at most", BoundsAskedTest::runInARing);
    }

    private static void nothingChanges(Due due) {
        String[] behind = {"nothing", "undo(12)", "goBack(0)"};
        for (int which = 0; which < behind.length; which++) {
            AxleKeeper x = Look.busy(0);
            AxleKeeper y = Look.busy(0);
            for (int what = -1; what <= 17; what++) x.told(what);
            for (int s = -1; s <= 4; s++) for (int what = -1; what <= 7; what++) x.section(s, what);
            for (int h = -1; h <= 5; h++) for (int what = -1; what <= 10; what++) x.head(h, what);
            for (int lost = -1; lost <= 32; lost++) x.would(lost);
            for (AxleKeeper each : new AxleKeeper[] {x, y}) {
                if (which == 1) each.undo(12);
                if (which == 2) each.goBack(0);
            }
            Look.same(due, "all asked, then " + behind[which], x, y);
        }
    }

    private static void wronglyClear(Due due) {
        AxleKeeper x = new AxleKeeper();
        due.is("none", x.told(8), 0);
        x.miss(0, 0, 1);
        due.is("one in section 0", x.told(8), 1);
        x.miss(3, 1, 1);
        due.is("one in section 2", x.told(8), 5);
        x.feel(0, 3);
        x.tick(0);
        due.is("section 0 is not clear", x.told(8), 4);
        x.miss(3, 0, 1);
        due.is("section 2 is empty", x.told(8), 0);
        x.go(3, 1, 1);
        due.is("not heard yet", x.told(8), 4);
        x.tick(0);
        due.is("taken", x.told(8), 0);
    }

    private static void idle(Due due) {
        AxleKeeper x = new AxleKeeper();
        due.is("clear and empty", x.told(9), 0);
        x.feel(0, 3);
        x.tick(0);
        due.is("disturbed and empty", x.told(9), 1);
        x.miss(0, 0, 1);
        due.is("disturbed with one", x.told(9), 0);
        x.miss(0, 1, 1);
        due.is("disturbed without", x.told(9), 1);
        x.reset(0);
        due.is("sweep and empty", x.told(9), 1);
        Look.feltLeft(x, 3);
        x.tick(0);
        due.is("taken and empty", x.told(9), 5);
    }

    /** A row of 1 with that SUM, at most 0, and nothing else the matter. */
    private static AxleKeeper below(int sum) {
        AxleKeeper x = Look.row(1);
        for (int at = 0; at > sum; at -= 5) {
            for (int i = 0; i < Math.min(5, at - sum); i++) Look.feltLeft(x, 0);
            x.tick(0);
        }
        return x;
    }

    private static void upToNine(Due due) {
        for (int sum = -1; sum >= -12; sum--) {
            AxleKeeper x = below(sum);
            due.is("sum", x.section(0, 1), 1000 + sum);
            boolean could = sum >= -9;
            due.is("suspects at " + sum, x.told(11), could ? 3 : 0);
            due.is("head 0 at " + sum, x.head(0, 9), could ? 10 - sum : NONE);
            due.is("head 1 at " + sum, x.head(1, 9), could ? 10 + sum : NONE);
        }
    }

    private static void noOtherBelow(Due due) {
        // sums 3, -3, 0: head 1 can give three, head 2 has none to give back
        AxleKeeper x = new AxleKeeper();
        x.go(0, 0, 3);
        for (int i = 0; i < 3; i++) {
            Look.feltRight(x, 2);
            Look.feltRight(x, 3);
        }
        x.tick(0);
        Look.sums(due, "x", x, 3, -3, 0);
        due.is("just enough", x.told(11), 2);
        due.is("by three", x.head(1, 9), 13);
        due.is("head 2", x.head(2, 9), NONE);
        // sums 2, -3, 0: no head has enough
        AxleKeeper y = new AxleKeeper();
        y.go(0, 0, 2);
        for (int i = 0; i < 3; i++) {
            Look.feltRight(y, 2);
            Look.feltRight(y, 3);
        }
        y.tick(0);
        Look.sums(due, "y", y, 2, -3, 0);
        due.is("one too few", y.told(11), 0);
        // two sections below 0: none alone
        AxleKeeper z = new AxleKeeper();
        Look.feltLeft(z, 0);
        Look.feltRight(z, 3);
        z.tick(0);
        Look.sums(due, "z", z, -1, 0, -1);
        due.is("none alone", z.told(11), 0);
        // sums -1, 1 in a ring of 2: both heads
        AxleKeeper ring = Look.ring(2);
        Look.feltRight(ring, 1);
        ring.tick(0);
        Look.sums(due, "ring", ring, -1, 1);
        due.is("both", ring.told(11), 3);
        due.is("head 0", ring.head(0, 9), 11);
        due.is("head 1", ring.head(1, 9), 9);
        // the last section of a ring below 0: no HEAD N is at its right, but HEAD 0
        for (int n = 2; n <= 6; n++) {
            AxleKeeper last = Look.ring(n);
            Look.feltRight(last, 0);
            last.tick(0);
            due.is("ring of " + n + ": suspects", last.told(11), n == 2 ? 3 : 1);
            due.is("ring of " + n + ": head 0", last.head(0, 9), 9);
        }
    }

    /** A tie of one above 0 and one below cannot be: what mends the SUM below 0 in the one direction worsens it in the other. */
    private static void nearest(Due due) {
        AxleKeeper x = new AxleKeeper();
        x.go(0, 0, 8);
        Look.feltRight(x, 2);
        x.tick(0);
        Look.sums(due, "sums", x, 8, -1, 1);
        due.is("1 to 8 would do, 1 is nearest", x.head(1, 9), 11);
        due.is("-1 alone would do", x.head(2, 9), 9);
        due.is("suspects", x.told(11), 6);
    }

    private static void elseNone(Due due) {
        AxleKeeper x = new AxleKeeper();
        due.is("sums 0", x.told(11), 0);
        x.go(0, 0, 5);
        x.tick(0);
        due.is("sums above 0", x.told(11), 0);
        for (int h = 0; h < 4; h++) due.is("head " + h, x.head(h, 9), NONE);
        Look.feltLeft(x, 2);
        due.is("not heard yet", x.told(11), 0);
        x.tick(0);
        due.is("section 2 is below 0", x.told(11), 12);
    }

    private static void would(Due due) {
        for (int lost = 0; lost < 32; lost++) {
            AxleKeeper x = Look.busy(0);
            int clear = x.would(lost);
            due.is("would(" + lost + ") again", x.would(lost), clear);
            due.is("tick(" + lost + ")", x.tick(lost), clear);
        }
        AxleKeeper y = new AxleKeeper();
        Look.ticks(y, 1, 3);
        due.is("the fourth lost", y.would(1), 6);
        due.is("it comes", y.would(0), 7);
    }

    private static void left(Due due) {
        AxleKeeper x = Look.row(1);
        for (int age = 0; age <= 3; age++) {
            due.is("age " + age, x.section(0, 5), 4 - age);
            due.is("no trouble", x.section(0, 3), 0);
            x.tick(3);
        }
        due.is("trouble", x.section(0, 3), 1);
        x.tick(0);
        due.is("heard", x.section(0, 5), 4);
    }

    private static void noneLeft(Due due) {
        AxleKeeper x = Look.row(1);
        Look.ticks(x, 1, 4);
        due.is("age 4", x.section(0, 5), 0);
        x.tick(1);
        due.is("age 5", x.section(0, 5), 0);
        Look.ticks(x, 1, 120);
        due.is("age 99", x.section(0, 5), 0);
    }

    private static void leastLeft(Due due) {
        AxleKeeper x = new AxleKeeper();
        x.tick(2);
        x.tick(2 + 8);
        int[] row = {2, 2, 3};
        for (int s = 0; s < 3; s++) due.is("row: section " + s, x.section(s, 5), row[s]);
        AxleKeeper y = Look.ring(3);
        y.tick(1);
        int[] ring = {3, 4, 3};
        for (int s = 0; s < 3; s++) due.is("ring: section " + s, y.section(s, 5), ring[s]);
    }

    private static void noRun(Due due) {
        AxleKeeper x = new AxleKeeper();
        x.go(0, 0, 1);
        x.feel(3, 3);
        x.tick(0);
        due.is("taken", x.section(0, 6), 0);
        due.is("disturbed", x.section(2, 6), 0);
        x.reset(2);
        due.is("sweep", x.section(2, 6), 0);
        due.is("clear", x.section(1, 6), 1);
    }

    private static void run(Due due) {
        AxleKeeper x = Look.row(6);
        for (int s = 0; s < 6; s++) due.is("to the end from " + s, x.section(s, 6), 6 - s);
        Look.feltLeft(x, 4);
        Look.feltLeft(x, 5);
        Look.feltLeft(x, 6);
        x.tick(0);
        int[] run = {3, 2, 1, 0, 2, 1};
        for (int s = 0; s < 6; s++) due.is("with 3 taken from " + s, x.section(s, 6), run[s]);
    }

    private static void runInARing(Due due) {
        for (int n = 2; n <= 6; n++) {
            AxleKeeper x = Look.ring(n);
            for (int s = 0; s < n; s++) due.is("ring of " + n + " from " + s, x.section(s, 6), n);
        }
        AxleKeeper y = Look.ring(4);
        y.feel(2, 3);
        y.tick(0);
        int[] round = {1, 0, 0, 2};
        for (int s = 0; s < 4; s++) due.is("round from " + s, y.section(s, 6), round[s]);
    }

    // ---- the book

    private static void book(Sentences all) {
        all.add("THE BOOK: 20 at most", BoundsAskedTest::twentyAtMost)
            .add("WRONG: the first that is otherwise now", BoundsAskedTest::firstWrong)
            .add("WRONG: NONE", BoundsAskedTest::noneWrong);
    }

    private static void twentyAtMost(Due due) {
        AxleKeeper x = new AxleKeeper();
        for (int i = 1; i <= 20; i++) due.is("entry " + i, x.write(i % 3, i % 4), i);
        due.is("entry 21", x.write(0, 0), FULL);
        due.is("entries", x.told(14), 20);
        due.is("tear", x.tear(), 20);
        due.is("from the beginning", x.write(0, 0), 1);
    }

    private static void firstWrong(Due due) {
        for (int wrong = 0; wrong < 20; wrong++) {
            AxleKeeper x = new AxleKeeper();
            for (int i = 0; i < 20; i++) x.write(i % 3, i < wrong ? 0 : 1 + i % 3);
            due.is("the first of " + (20 - wrong), x.told(15), wrong);
        }
        AxleKeeper y = new AxleKeeper();
        y.write(2, 0);
        y.write(1, 1);
        due.is("clear is not taken", y.told(15), 1);
        y.go(3, 1, 1);
        y.tick(0);
        due.is("otherwise now", y.told(15), 0);
    }

    private static void noneWrong(Due due) {
        AxleKeeper x = new AxleKeeper();
        due.is("an empty book", x.told(15), NONE);
        for (int i = 0; i < 20; i++) x.write(i % 3, 0);
        due.is("a full book", x.told(15), NONE);
        AxleKeeper y = Look.busy(0);
        y.tear();
        y.write(0, 1);
        y.write(1, 2);
        y.write(2, 1);
        y.write(3, 3);
        due.is("each call as it is", y.told(15), NONE);
        x.write(0, 3);
        x.tear();
        due.is("torn", x.told(15), NONE);
    }

    // ---- by draws

    private static void draws(Sentences all) {
        all.add("THE SEED: 0 at first", due -> due.is("seed", new AxleKeeper().seed(5), 0))
            .add("THE SEED: left over by 2 to the 31", BoundsAskedTest::leftOver)
            .add("BY DRAWS: a DRAW of HEADS, of 2, of 3, of 16, of 2 to the number of HEADS", BoundsAskedTest::bounds)
            .add("BY DRAWS: if so many can go", BoundsAskedTest::ifSoManyCanGo)
            .add("BY DRAWS: MISSED, if the fourth is 0, else GONE", BoundsAskedTest::fourthIsNothing)
            .add("BY DRAWS: MISSED, if the HEAD is FAULTY", BoundsAskedTest::faultyInDraws)
            .add("BY DRAWS: MISSED, if it is not in STATE 0", BoundsAskedTest::stateInDraws)
            .add("BY DRAWS: LOST if the fourth is below 4, else none", BoundsAskedTest::fourthBelowFour);
    }

    private static void leftOver(Due due) {
        for (int seed : new int[] {0, 1, 2, 12345, 65535, 65536, 1 << 30, Integer.MAX_VALUE - 1, Integer.MAX_VALUE}) {
            AxleKeeper x = new AxleKeeper();
            x.seed(seed);
            x.drift(1);
            due.is("five draws from " + seed, x.seed(0), Drawn.from(seed, 4).seedBehind());
        }
        AxleKeeper y = new AxleKeeper();
        for (int i = 0; i < 100; i++) {
            y.drift(1);
            due.so("never below 0", Look.seedOf(y) >= 0);
        }
    }

    /** Each HEAD, side and number of axles from OUT, and all telegrams LOST, come by some draw as the document says. */
    private static void bounds(Due due) {
        for (int n = 1; n <= 6; n++) {
            int heads = n + 1;
            for (int axles = 1; axles <= 3; axles++) {
                int wanted = axles;
                oneDrift(due, n, Drawn.seedOf(heads, d -> d.head() == 0 && d.side() == 0 && d.axles() == wanted && d.fourth() == 15));
                oneDrift(due, n, Drawn.seedOf(heads, d -> d.head() == heads - 1 && d.side() == 1 && d.axles() == wanted && d.fourth() == 4));
            }
            oneDrift(due, n, Drawn.seedOf(heads, d -> d.fourth() == 1 && d.last() == (1 << heads) - 1));
            oneDrift(due, n, Drawn.seedOf(heads, d -> d.fourth() == 1 && d.last() == 1 << heads - 1));
        }
        for (int n = 2; n <= 6; n++) {
            int heads = n;
            AxleKeeper x = Look.ring(n);
            x.seed(Drawn.seedOf(heads, d -> d.fourth() == 2 && d.last() == (1 << heads) - 1));
            x.drift(1);
            for (int h = 0; h < n; h++) due.is("ring of " + n + ": age of " + h, x.head(h, 4), 1);
        }
    }

    private static void oneDrift(Due due, int n, int seed) {
        Drawn drawn = Drawn.from(seed, n + 1);
        AxleKeeper x = Look.row(n);
        AxleKeeper y = Look.row(n);
        x.seed(seed);
        int clear = x.drift(1);
        y.go(drawn.head(), drawn.side(), drawn.axles());
        due.is("row of " + n + ", " + drawn, clear, y.tick(drawn.fourth() < 4 ? drawn.last() : 0));
        y.seed(drawn.seedBehind());
        for (int s = 0; s < n; s++) due.is("row of " + n + ", " + drawn + ": true of " + s, x.section(s, 2), y.section(s, 2));
        for (int h = 0; h <= n; h++) {
            due.is("row of " + n + ", " + drawn + ": count of " + h, x.head(h, 2), y.head(h, 2));
            due.is("row of " + n + ", " + drawn + ": age of " + h, x.head(h, 4), y.head(h, 4));
        }
        due.is("row of " + n + ", " + drawn + ": seed", x.seed(0), y.seed(0));
    }

    private static void ifSoManyCanGo(Due due) {
        int seed = Drawn.seedOf(4, d -> d.head() == 1 && d.side() == 0 && d.axles() == 3 && d.fourth() == 9);
        for (int there = 0; there <= 4; there++) {
            AxleKeeper x = new AxleKeeper();
            if (there > 0) x.miss(0, 0, there);
            x.seed(seed);
            x.drift(1);
            int went = there >= 3 ? 3 : 0;
            due.is("of " + there + " left", x.section(0, 2), there - went);
            due.is("of " + there + " went", x.section(1, 2), went);
            due.is("count", x.head(1, 2), 10000 + went);
            due.is("a tick all the same", x.told(3), 1);
            due.is("five draws all the same", x.seed(0), Drawn.from(seed, 4).seedBehind());
        }
    }

    private static void fourthIsNothing(Due due) {
        for (int fourth = 0; fourth < 16; fourth++) {
            int wanted = fourth;
            AxleKeeper x = new AxleKeeper();
            x.seed(Drawn.seedOf(4, d -> d.head() == 0 && d.side() == 0 && d.axles() == 2 && d.fourth() == wanted && d.last() == 8));
            x.drift(1);
            due.is("fourth " + fourth + ": they went", x.section(0, 2), 2);
            due.is("fourth " + fourth + ": felt", x.head(0, 2), fourth == 0 ? 10000 : 10002);
        }
    }

    private static void faultyInDraws(Due due) {
        AxleKeeper x = new AxleKeeper();
        x.feel(0, 3);
        x.seed(Drawn.seedOf(4, d -> d.head() == 0 && d.side() == 0 && d.axles() == 2 && d.fourth() == 7));
        x.drift(1);
        due.is("they went", x.section(0, 2), 2);
        due.is("not felt", x.head(0, 2), 10000);
        due.is("told faulty", x.head(0, 6), 1);
        due.is("disturbed", x.told(6), 1);
    }

    private static void stateInDraws(Due due) {
        for (int places : new int[] {-3, -2, -1, 1, 2, 3}) {
            AxleKeeper x = new AxleKeeper();
            Look.wheelAt(x, 0, places);
            x.seed(Drawn.seedOf(4, d -> d.head() == 0 && d.side() == 0 && d.axles() == 2 && d.fourth() == 7));
            x.drift(1);
            due.is("they went", x.section(0, 2), 2);
            due.is("not felt", x.head(0, 2), 10000);
            due.is("places", x.head(0, 1), places + 4);
        }
    }

    private static void fourthBelowFour(Due due) {
        for (int fourth = 0; fourth < 16; fourth++) {
            int wanted = fourth;
            AxleKeeper x = new AxleKeeper();
            x.seed(Drawn.seedOf(4, d -> d.fourth() == wanted && d.last() == 11));
            x.drift(1);
            for (int h = 0; h < 4; h++) due.is("fourth " + fourth + ": age of " + h, x.head(h, 4), fourth < 4 && h != 2 ? 1 : 0);
        }
    }

    // ---- undone, images

    private static void undone(Sentences all) {
        all.add("UNDONE: each kind of deed", BoundsAskedTest::eachKind)
            .add("UNDONE: each of the times BY DRAWS", BoundsAskedTest::eachOfTheTimes)
            .add("UNDONE: 16 at most are kept", BoundsAskedTest::sixteenAtMost)
            .add("UNDONE: since the IMAGE", BoundsAskedTest::sinceTheImage)
            .add("UNDONE: THE SEED stays", BoundsAskedTest::seedStays)
            .add("UNDONE: what is no deed is not undone", BoundsAskedTest::noDeeds)
            .add("IMAGES 0, 1", BoundsAskedTest::twoImages)
            .add("IMAGES keep all of sections 1, 2, THE SEED", BoundsAskedTest::imagesKeepAll);
    }

    private static int deed(AxleKeeper x, int kind) {
        switch (kind) {
            case 0: return x.feel(3, 3);
            case 1: return x.feel(3, 1);
            case 2: return x.go(1, 1, 2);
            case 3: return x.miss(1, 1, 2);
            case 4: return x.tick(0);
            case 5: return x.tick(31);
            case 6: return x.reset(1);
            case 7: return x.repair(4);
            default: return x.drift(1);
        }
    }

    private static void eachKind(Due due) {
        for (int kind = 0; kind <= 8; kind++) {
            AxleKeeper x = Look.busy(0);
            AxleKeeper y = Look.busy(0);
            due.so("deed " + kind + " is done", deed(x, kind) >= 0);
            due.is("deed " + kind + " is one", x.told(16), 13);
            due.is("deed " + kind + " is undone", x.undo(1), 12);
            y.seed(Look.seedOf(x));
            Look.same(due, "deed " + kind + " undone", x, y);
        }
        int[][] lines = {{1, 0}, {2, 0}, {6, 0}, {2, 1}, {6, 1}};
        for (int[] line : lines) {
            AxleKeeper x = Look.busy(0);
            AxleKeeper y = Look.busy(0);
            x.line(line[0], line[1] == 1);
            due.is("line(" + line[0] + ") is one", x.told(16), 13);
            due.is("line(" + line[0] + ") is undone", x.undo(1), 12);
            y.tear();
            Look.same(due, "line(" + line[0] + ") undone", x, y);
            AxleKeeper ring = Look.ring(5);
            ring.line(line[0], line[1] == 1);
            ring.undo(1);
            Look.same(due, "line(" + line[0] + ") undone to a ring", ring, Look.ring(5));
        }
    }

    private static void eachOfTheTimes(Due due) {
        for (int times = 1; times <= 16; times++) {
            AxleKeeper x = Look.row(4);
            x.keep(0);
            x.drift(times);
            due.is("drift(" + times + ")", x.told(16), times);
            due.is("one less", x.undo(1), times - 1);
            AxleKeeper y = Look.row(4);
            y.keep(0);
            if (times > 1) y.drift(times - 1);
            y.seed(Look.seedOf(x));
            Look.same(due, "drift(" + times + "), undo(1)", x, y);
        }
    }

    private static void sixteenAtMost(Due due) {
        AxleKeeper x = new AxleKeeper();
        for (int i = 1; i <= 15; i++) x.go(0, 0, 1);
        due.is("15 deeds", x.told(16), 15);
        x.go(0, 0, 1);
        due.is("16 deeds", x.told(16), 16);
        x.go(0, 0, 1);
        due.is("17 deeds", x.told(16), 16);
        due.is("undo(16)", x.undo(16), 0);
        due.is("the first is not undone", x.told(12), 1);
        due.is("undo(1)", x.undo(1), NOT);
        for (int i = 0; i < 16; i++) x.go(0, 0, 2);
        for (int i = 1; i <= 16; i++) {
            due.is("one by one", x.undo(1), 16 - i);
            due.is("one by one: true", x.told(12), 1 + 2 * (16 - i));
        }
        due.is("no more", x.undo(1), NOT);
    }

    private static void sinceTheImage(Due due) {
        AxleKeeper x = new AxleKeeper();
        x.go(0, 0, 1);
        x.go(0, 0, 1);
        x.keep(1);
        due.is("kept", x.told(16), 0);
        due.is("kept: undo(1)", x.undo(1), NOT);
        x.go(0, 0, 1);
        due.is("one since", x.told(16), 1);
        due.is("undo(2)", x.undo(2), NOT);
        due.is("undo(1)", x.undo(1), 0);
        due.is("as kept", x.told(12), 2);
        x.go(0, 0, 1);
        x.goBack(1);
        due.is("gone back", x.told(16), 0);
        due.is("gone back: undo(1)", x.undo(1), NOT);
        due.is("as kept", x.told(12), 2);
    }

    private static void seedStays(Due due) {
        AxleKeeper x = new AxleKeeper();
        x.seed(41);
        x.drift(2);
        int drawn = Look.seedOf(x);
        x.undo(1);
        due.is("one of two", Look.seedOf(x), drawn);
        x.undo(1);
        due.is("both", Look.seedOf(x), drawn);
        x.go(0, 0, 1);
        x.seed(6);
        x.undo(1);
        due.is("set", Look.seedOf(x), 6);
    }

    private static void noDeeds(Due due) {
        AxleKeeper x = new AxleKeeper();
        x.go(0, 0, 1);
        x.write(0, 0);
        x.write(1, 0);
        x.seed(9);
        x.would(0);
        x.told(0);
        due.is("one deed", x.told(16), 1);
        due.is("it is undone", x.undo(1), 0);
        due.is("the book stays", x.told(14), 2);
        x.go(0, 0, 1);
        x.tear();
        x.undo(1);
        due.is("torn stays torn", x.told(14), 0);
    }

    private static void twoImages(Due due) {
        AxleKeeper x = new AxleKeeper();
        due.is("goBack(0)", x.goBack(0), NOT);
        due.is("goBack(1)", x.goBack(1), NOT);
        x.go(0, 0, 1);
        x.keep(0);
        due.is("goBack(1) still", x.goBack(1), NOT);
        x.go(0, 0, 1);
        x.keep(1);
        x.go(0, 0, 1);
        due.is("goBack(0)", x.goBack(0), 1);
        due.is("image 0", x.told(12), 1);
        due.is("goBack(1)", x.goBack(1), 1);
        due.is("image 1", x.told(12), 2);
        x.keep(0);
        x.go(0, 0, 1);
        due.is("goBack(0) anew", x.goBack(0), 1);
        due.is("image 0 anew", x.told(12), 2);
    }

    private static void imagesKeepAll(Due due) {
        for (int i = 0; i < 2; i++) {
            AxleKeeper x = Look.busy(0);
            AxleKeeper y = Look.busy(0);
            x.keep(i);
            y.keep(i);
            x.drift(9);
            x.seed(3);
            x.goBack(i);
            Look.same(due, "image " + i, x, y);
            AxleKeeper z = Look.busy(0);
            z.keep(i);
            z.line(6, true);
            z.feel(5, 3);
            z.tick(1);
            z.goBack(i);
            y.tear();
            Look.same(due, "image " + i + " of another line", z, y);
        }
        AxleKeeper ring = Look.ring(5);
        ring.keep(0);
        ring.line(5, false);
        ring.goBack(0);
        AxleKeeper same = Look.ring(5);
        same.keep(0);
        Look.same(due, "image of a ring", ring, same);
        AxleKeeper w = new AxleKeeper();
        w.seed(11);
        w.keep(0);
        w.seed(12);
        due.is("out of bounds", w.seed(-1), OUTSIDE);
        w.goBack(0);
        due.is("the seed of the image", w.seed(0), 11);
    }
}
