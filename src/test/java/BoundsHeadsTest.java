/** The boundary cases of section 1 of the document: SECTIONS in a row or a RING, HEADS, FEELERS, COUNT. */
public final class BoundsHeadsTest {
    private static final int NONE = AxleKeeper.NONE, UNKNOWN = AxleKeeper.UNKNOWN, OUTSIDE = AxleKeeper.OUTSIDE, NOT = AxleKeeper.NOT;
    /** Of -3 .. 3 places to the right, the STATE there. */
    private static final int[] STATE_AT = {2, 3, 1, 0, 2, 3, 1};

    public static void main(String[] args) {
        sentences().end("BoundsHeadsTest");
    }

    static Sentences sentences() {
        return new Sentences()
            .add("N 1 .. 6", BoundsHeadsTest::oneToSix)
            .add("3 at first", BoundsHeadsTest::threeAtFirst)
            .add("HEADS 0 to N at their ends", BoundsHeadsTest::headsAtTheEnds)
            .add("left of HEAD 0 is OUT", BoundsHeadsTest::outAtTheLeft)
            .add("right of HEAD N is OUT", BoundsHeadsTest::outAtTheRight)
            .add("a RING (not at first)", due -> due.is("told(2)", new AxleKeeper().told(2), 0))
            .add("RING: HEAD 0 has SECTION N less 1 at its left", BoundsHeadsTest::ringCloses)
            .add("RING: there is no HEAD N", BoundsHeadsTest::ringHasNoHeadN)
            .add("RING: no OUT", BoundsHeadsTest::ringHasNoOut)
            .add("a STEP goes one place on, or back", BoundsHeadsTest::steps)
            .add("4 places to the right an axle WENT RIGHT, at 0 places again", BoundsHeadsTest::wentRight)
            .add("4 to the left it WENT LEFT, at 0 places again", BoundsHeadsTest::wentLeft)
            .add("back to STATE 0 by the way it came, nothing went", BoundsHeadsTest::backTheWayItCame)
            .add("from the one side of 0 to the other", BoundsHeadsTest::overZero)
            .add("both FEELERS at once: FAULTY, STATE and places stay", BoundsHeadsTest::bothAtOnce)
            .add("COUNT: RIGHT less LEFT since the beginning", BoundsHeadsTest::countSinceTheBeginning)
            .add("while it is FAULTY, it feels and counts nothing", BoundsHeadsTest::faultyFeelsNothing)
            .add("REPAIRED: not FAULTY, STATE 0, at 0 places", BoundsHeadsTest::repaired);
    }

    private static void oneToSix(Due due) {
        AxleKeeper x = new AxleKeeper();
        for (int n = 1; n <= 6; n++) {
            due.is("line(" + n + ")", x.line(n, false), n + 1);
            due.is("sections", x.told(0), n);
            due.is("the first of " + n, x.section(0, 0), 0);
            due.is("the last of " + n, x.section(n - 1, 0), 0);
            due.is("behind the last of " + n, x.section(n, 0), UNKNOWN);
        }
        due.is("line(0)", x.line(0, false), OUTSIDE);
        due.is("line(7)", x.line(7, false), OUTSIDE);
        due.is("sections", x.told(0), 6);
    }

    private static void threeAtFirst(Due due) {
        AxleKeeper x = new AxleKeeper();
        due.is("told(0)", x.told(0), 3);
        due.is("told(1)", x.told(1), 4);
        due.is("section(2, 0)", x.section(2, 0), 0);
        due.is("section(3, 0)", x.section(3, 0), UNKNOWN);
        due.is("head(3, 0)", x.head(3, 0), 0);
        due.is("head(4, 0)", x.head(4, 0), UNKNOWN);
    }

    private static void oneOver(Due due, String when, AxleKeeper x, int h, int left, int right) {
        Look.feltRight(x, h);
        x.tick(0);
        int sections = x.told(0);
        for (int s = 0; s < sections; s++) {
            due.is(when + ", head " + h + ": sum of " + s, x.section(s, 1), s == left ? 999 : s == right ? 1001 : 1000);
        }
    }

    private static void headsAtTheEnds(Due due) {
        for (int n = 1; n <= 6; n++) {
            for (int h = 0; h <= n; h++) oneOver(due, "row of " + n, Look.row(n), h, h - 1, h);
            due.is("row of " + n + ": heads", Look.row(n).told(1), n + 1);
            due.is("row of " + n + ": head behind the last", Look.row(n).head(n + 1, 0), UNKNOWN);
        }
    }

    private static void outAtTheLeft(Due due) {
        for (int n = 1; n <= 6; n++) {
            AxleKeeper x = Look.row(n);
            due.is("from out", x.go(0, 0, 9), 9);
            due.is("to out", x.go(0, 1, 9), 0);
            due.is("nowhere else", x.told(12), 0);
            due.is("no two sections", x.head(0, 8), NONE);
        }
    }

    private static void outAtTheRight(Due due) {
        for (int n = 1; n <= 6; n++) {
            AxleKeeper x = Look.row(n);
            due.is("from out", x.go(n, 1, 9), 9);
            due.is("in the last section", x.section(n - 1, 2), 9);
            due.is("to out", x.go(n, 0, 9), 0);
            due.is("nowhere else", x.told(12), 0);
            due.is("no two sections", x.head(n, 8), NONE);
        }
    }

    private static void ringCloses(Due due) {
        for (int n = 2; n <= 6; n++) {
            oneOver(due, "ring of " + n, Look.ring(n), 0, n - 1, 0);
            for (int h = 1; h < n; h++) oneOver(due, "ring of " + n, Look.ring(n), h, h - 1, h);
            AxleKeeper x = Look.ring(n);
            Look.ticks(x, 1, 4);
            for (int s = 0; s < n; s++) due.is("ring of " + n + ", head 0 too old: call of " + s, x.section(s, 0), s == 0 || s == n - 1 ? 2 : 0);
        }
    }

    private static void ringHasNoHeadN(Due due) {
        for (int n = 2; n <= 6; n++) {
            AxleKeeper x = Look.ring(n);
            due.is("heads", x.told(1), n);
            due.is("the last head", x.head(n - 1, 0), 0);
            due.is("head(" + n + ", 0)", x.head(n, 0), UNKNOWN);
            due.is("feel(" + n + ", 1)", x.feel(n, 1), UNKNOWN);
            due.is("tick of it", x.tick(1 << n), UNKNOWN);
        }
    }

    private static void ringHasNoOut(Due due) {
        for (int n = 2; n <= 6; n++) {
            AxleKeeper x = Look.ring(n);
            for (int h = 0; h < n; h++) {
                due.is("joint of " + h, x.head(h, 8), 2000);
                for (int side = 0; side < 2; side++) {
                    due.is("go(" + h + ", " + side + ", 1)", x.go(h, side, 1), NOT);
                    due.is("miss(" + h + ", " + side + ", 1)", x.miss(h, side, 1), NOT);
                }
            }
            due.is("no axles", x.told(12), 0);
        }
    }

    private static AxleKeeper wheelAt(int places) {
        AxleKeeper x = new AxleKeeper();
        Look.wheelAt(x, 1, places);
        return x;
    }

    private static void steps(Due due) {
        for (int places = -3; places <= 3; places++) {
            due.is("state at " + places, wheelAt(places).head(1, 0), STATE_AT[places + 3]);
            due.is("wheel at " + places, wheelAt(places).head(1, 1), places + 4);
            if (places < 3) {
                AxleKeeper x = wheelAt(places);
                due.is("on from " + places, x.feel(1, STATE_AT[places + 4]), 0);
                due.is("wheel behind it", x.head(1, 1), places + 5);
                due.is("state behind it", x.head(1, 0), STATE_AT[places + 4]);
            }
            if (places > -3) {
                AxleKeeper x = wheelAt(places);
                due.is("back from " + places, x.feel(1, STATE_AT[places + 2]), 0);
                due.is("wheel behind it", x.head(1, 1), places + 3);
                due.is("state behind it", x.head(1, 0), STATE_AT[places + 2]);
            }
        }
    }

    private static void wentRight(Due due) {
        AxleKeeper x = new AxleKeeper();
        for (int axle = 1; axle <= 17; axle++) {
            Look.wheelAt(x, 1, 3);
            due.is("at 3 places", x.head(1, 1), 7);
            due.is("not yet", x.head(1, 2), 10000 + axle - 1);
            due.is("at 4 places", x.feel(1, 0), 1);
            due.is("at 0 again", x.head(1, 1), 4);
            due.is("counted", x.head(1, 2), 10000 + axle);
        }
    }

    private static void wentLeft(Due due) {
        AxleKeeper x = new AxleKeeper();
        for (int axle = 1; axle <= 17; axle++) {
            Look.wheelAt(x, 1, -3);
            due.is("at 3 places", x.head(1, 1), 1);
            due.is("not yet", x.head(1, 2), 10000 - axle + 1);
            due.is("at 4 places", x.feel(1, 0), 2);
            due.is("at 0 again", x.head(1, 1), 4);
            due.is("counted", x.head(1, 2), 10000 - axle);
        }
    }

    private static void backTheWayItCame(Due due) {
        for (int far = -3; far <= 3; far++) {
            AxleKeeper x = wheelAt(far);
            int back = far > 0 ? -1 : 1;
            for (int at = far; at != 0; at += back) due.is("back from " + at, x.feel(1, STATE_AT[at + back + 3]), 0);
            due.is("state", x.head(1, 0), 0);
            due.is("at 0 places", x.head(1, 1), 4);
            due.is("nothing went", x.head(1, 2), 10000);
        }
    }

    /** Four steps on from 3 places to the left are no axle: it is only one place to the right of 0 then. */
    private static void overZero(Due due) {
        AxleKeeper x = wheelAt(-3);
        for (int v : new int[] {3, 1, 0, 2}) due.is("on feel(1, " + v + ")", x.feel(1, v), 0);
        due.is("one place to the right", x.head(1, 1), 5);
        for (int v : new int[] {3, 1}) due.is("on feel(1, " + v + ")", x.feel(1, v), 0);
        due.is("and through", x.feel(1, 0), 1);
        AxleKeeper y = wheelAt(3);
        for (int v : new int[] {3, 2, 0, 1}) due.is("back feel(1, " + v + ")", y.feel(1, v), 0);
        due.is("one place to the left", y.head(1, 1), 3);
        for (int v : new int[] {3, 2}) due.is("back feel(1, " + v + ")", y.feel(1, v), 0);
        due.is("and through", y.feel(1, 0), 2);
    }

    private static void bothAtOnce(Due due) {
        for (int places = -3; places <= 3; places++) {
            AxleKeeper x = wheelAt(places);
            due.is("at " + places, x.feel(1, 3 - STATE_AT[places + 3]), 3);
            due.is("faulty", x.head(1, 5), 1);
            due.is("faulty heads", x.told(10), 2);
            due.is("state stays", x.head(1, 0), STATE_AT[places + 3]);
            due.is("places stay", x.head(1, 1), places + 4);
            due.is("count stays", x.head(1, 2), 10000);
        }
    }

    private static void countSinceTheBeginning(Due due) {
        AxleKeeper x = new AxleKeeper();
        x.go(0, 0, 9);
        x.tick(0);
        x.go(0, 0, 9);
        due.is("above 16", x.head(0, 2), 10018);
        x.tick(0);
        x.feel(0, 3);
        x.repair(0);
        due.is("behind ticks and a repair", x.head(0, 2), 10018);
        x.go(0, 1, 9);
        x.go(0, 1, 8);
        due.is("less those that went left", x.head(0, 2), 10001);
        x.go(3, 1, 9);
        x.go(3, 1, 9);
        due.is("below 0", x.head(3, 2), 9982);
    }

    private static void faultyFeelsNothing(Due due) {
        for (int places = -3; places <= 3; places++) {
            AxleKeeper x = wheelAt(places);
            x.feel(1, 3 - STATE_AT[places + 3]);
            x.miss(0, 0, 9);
            for (int v = 0; v < 4; v++) due.is("feel(1, " + v + ")", x.feel(1, v), NOT);
            due.is("go(1, 0, 1)", x.go(1, 0, 1), NOT);
            due.is("miss(1, 0, 1)", x.miss(1, 0, 1), 1);
            due.is("state", x.head(1, 0), STATE_AT[places + 3]);
            due.is("places", x.head(1, 1), places + 4);
            due.is("count", x.head(1, 2), 10000);
            x.tick(0);
            due.is("nothing heard of it", x.head(1, 3), 0);
        }
    }

    private static void repaired(Due due) {
        for (int places = -3; places <= 3; places++) {
            AxleKeeper x = wheelAt(places);
            x.feel(1, 3 - STATE_AT[places + 3]);
            due.is("repair at " + places, x.repair(1), places == 0 ? 1 : 0);
            due.is("not faulty", x.head(1, 5), 0);
            due.is("state 0", x.head(1, 0), 0);
            due.is("0 places", x.head(1, 1), 4);
            due.is("nothing went", x.head(1, 2), 10000);
            for (int v : new int[] {2, 3, 1}) due.is("feel(1, " + v + ")", x.feel(1, v), 0);
            due.is("a whole axle", x.feel(1, 0), 1);
        }
    }
}
