import java.util.ArrayList;
import java.util.List;
import java.util.function.ToIntFunction;

/** The boundary cases that "Terms" and "What it is" name ahead of their sections: numbers, SETS, REFUSALS. */
public final class BoundsTermsTest {
    private static final int UNKNOWN = AxleKeeper.UNKNOWN, OUTSIDE = AxleKeeper.OUTSIDE, NOT = AxleKeeper.NOT, FULL = AxleKeeper.FULL;
    private static final int MIN = Integer.MIN_VALUE, MAX = Integer.MAX_VALUE;

    public static void main(String[] args) {
        sentences().end("BoundsTermsTest");
    }

    static Sentences sentences() {
        return new Sentences()
            .add("at most 512 calls", BoundsTermsTest::fiveHundredAndTwelveCalls)
            .add("what has a number has it from 0 on", BoundsTermsTest::numbersFromZero)
            .add("a SET: bit k for k", BoundsTermsTest::bitForBit)
            .add("NONE is -1", due -> due.is("NONE", constant("NONE"), -1))
            .add("REFUSALS: -1000000001 and on", BoundsTermsTest::numbersOfRefusals)
            .add("UNKNOWN: a SECTION that there is not", BoundsTermsTest::unknownSection)
            .add("UNKNOWN: a HEAD that there is not", BoundsTermsTest::unknownHead)
            .add("UNKNOWN: an IMAGE that there is not", BoundsTermsTest::unknownImage)
            .add("UNKNOWN: bits of HEADS that there are not", BoundsTermsTest::unknownBits)
            .add("UNKNOWN comes ahead of OUTSIDE", BoundsTermsTest::unknownAheadOfOutside)
            .add("UNKNOWN comes ahead of NOT", BoundsTermsTest::unknownAheadOfNot)
            .add("UNKNOWN comes ahead of FULL", BoundsTermsTest::unknownAheadOfFull)
            .add("OUTSIDE comes ahead of NOT", BoundsTermsTest::outsideAheadOfNot)
            .add("OUTSIDE comes ahead of FULL", BoundsTermsTest::outsideAheadOfFull)
            .add("what is refused changes nothing", BoundsTermsTest::refusedChangesNothing)
            .add("what is refused changes nothing, not what can be undone", BoundsTermsTest::refusedIsNotUndone);
    }

    private static void fiveHundredAndTwelveCalls(Due due) {
        AxleKeeper x = new AxleKeeper();
        for (int call = 1; call <= 510; call++) x.go(0, 0, 9);
        due.is("the 511th call", x.tick(0), 6);
        due.is("the 512th call", x.told(12), 510 * 9);
        AxleKeeper y = new AxleKeeper();
        for (int call = 1; call <= 511; call++) y.drift(16);
        due.is("ticks of 511 calls", y.told(3), 511 * 16);
    }

    private static void numbersFromZero(Due due) {
        AxleKeeper x = new AxleKeeper();
        due.is("section(0, 0)", x.section(0, 0), 0);
        due.is("section(-1, 0)", x.section(-1, 0), UNKNOWN);
        due.is("head(0, 0)", x.head(0, 0), 0);
        due.is("head(-1, 0)", x.head(-1, 0), UNKNOWN);
        due.is("told(0)", x.told(0), 3);
        due.is("told(-1)", x.told(-1), OUTSIDE);
        due.is("keep(0)", x.keep(0), 1);
        due.is("keep(-1)", x.keep(-1), UNKNOWN);
        x.write(0, 1);
        due.is("the first entry", x.told(15), 0);
    }

    private static void bitForBit(Due due) {
        AxleKeeper x = Look.row(6);
        due.is("all six clear", x.told(4), 63);
        x.feel(0, 3);
        due.is("head 0 faulty", x.told(10), 1);
        x.feel(6, 3);
        due.is("heads 0 and 6 faulty", x.told(10), 65);
        due.is("sections 1 to 4 clear", x.tick(0), 30);
        due.is("sections 0 and 5 disturbed", x.told(6), 33);
        for (int lost = 0; lost < 7; lost++) {
            AxleKeeper y = Look.row(6);
            y.tick(1 << lost);
            for (int h = 0; h < 7; h++) due.is("lost " + lost + ": age of " + h, y.head(h, 4), h == lost ? 1 : 0);
        }
    }

    private static void numbersOfRefusals(Due due) {
        due.is("UNKNOWN", constant("UNKNOWN"), -1000000001);
        due.is("OUTSIDE", constant("OUTSIDE"), -1000000002);
        due.is("NOT", constant("NOT"), -1000000003);
        due.is("FULL", constant("FULL"), -1000000004);
    }

    /** As the class has it: javac would write its number into this test. */
    private static int constant(String name) {
        try {
            return AxleKeeper.class.getField(name).getInt(null);
        } catch (ReflectiveOperationException gone) {
            return 0;
        }
    }

    private static void unknownSection(Due due) {
        AxleKeeper x = Look.row(6);
        for (int s : new int[] {-1, 6, 7, MIN, MAX}) {
            due.is("section(" + s + ", 0)", x.section(s, 0), UNKNOWN);
            due.is("reset(" + s + ")", x.reset(s), UNKNOWN);
            due.is("write(" + s + ", 0)", x.write(s, 0), UNKNOWN);
        }
        due.is("section(5, 0)", x.section(5, 0), 0);
        due.is("reset(5)", x.reset(5), NOT);
        due.is("write(5, 0)", x.write(5, 0), 1);
        AxleKeeper y = Look.row(1);
        due.is("row of 1: section(1, 0)", y.section(1, 0), UNKNOWN);
        due.is("row of 1: reset(1)", y.reset(1), UNKNOWN);
        due.is("row of 1: write(1, 0)", y.write(1, 0), UNKNOWN);
    }

    private static void unknownHead(Due due) {
        AxleKeeper row = Look.row(6);
        AxleKeeper ring = Look.ring(6);
        for (int h : new int[] {-1, 7, 8, MIN, MAX}) noSuchHead(due, "row of 6", row, h);
        for (int h : new int[] {-1, 6, 7, MIN, MAX}) noSuchHead(due, "ring of 6", ring, h);
        noSuchHead(due, "row of 1", Look.row(1), 2);
        due.is("row of 6: head(6, 0)", row.head(6, 0), 0);
        due.is("row of 6: repair(6)", row.repair(6), NOT);
        due.is("row of 6: go(6, 1, 1)", row.go(6, 1, 1), 1);
        due.is("row of 6: miss(6, 0, 1)", row.miss(6, 0, 1), 0);
        due.is("row of 6: feel(6, 1)", row.feel(6, 1), 0);
        due.is("ring of 6: head(5, 0)", ring.head(5, 0), 0);
        due.is("ring of 6: feel(5, 1)", ring.feel(5, 1), 0);
    }

    private static void noSuchHead(Due due, String line, AxleKeeper x, int h) {
        due.is(line + ": head(" + h + ", 0)", x.head(h, 0), UNKNOWN);
        due.is(line + ": feel(" + h + ", 1)", x.feel(h, 1), UNKNOWN);
        due.is(line + ": go(" + h + ", 0, 1)", x.go(h, 0, 1), UNKNOWN);
        due.is(line + ": miss(" + h + ", 0, 1)", x.miss(h, 0, 1), UNKNOWN);
        due.is(line + ": repair(" + h + ")", x.repair(h), UNKNOWN);
    }

    private static void unknownImage(Due due) {
        AxleKeeper x = new AxleKeeper();
        due.is("keep(0)", x.keep(0), 1);
        due.is("keep(1)", x.keep(1), 1);
        for (int i : new int[] {-1, 2, 3, MIN, MAX}) {
            due.is("keep(" + i + ")", x.keep(i), UNKNOWN);
            due.is("goBack(" + i + ")", x.goBack(i), UNKNOWN);
        }
        due.is("goBack(0)", x.goBack(0), 1);
        due.is("goBack(1)", x.goBack(1), 1);
    }

    private static void unknownBits(Due due) {
        for (int n = 1; n <= 6; n++) {
            bits(due, "row of " + n, Look.row(n), n + 1);
            if (n > 1) bits(due, "ring of " + n, Look.ring(n), n);
        }
    }

    private static void bits(Due due, String line, AxleKeeper x, int heads) {
        for (int bit = heads; bit < 32; bit++) {
            due.is(line + ": tick(bit " + bit + ")", x.tick(1 << bit), UNKNOWN);
            due.is(line + ": would(bit " + bit + ")", x.would(1 << bit), UNKNOWN);
            due.is(line + ": tick(bits 0 and " + bit + ")", x.tick(1 | 1 << bit), UNKNOWN);
        }
        due.is(line + ": tick(-1)", x.tick(-1), UNKNOWN);
        due.is(line + ": would(-1)", x.would(-1), UNKNOWN);
        int sections = x.told(0);
        due.is(line + ": would(all)", x.would((1 << heads) - 1), (1 << sections) - 1);
        due.is(line + ": tick(all)", x.tick((1 << heads) - 1), (1 << sections) - 1);
        due.is(line + ": one tick", x.told(3), 1);
    }

    private static void unknownAheadOfOutside(Due due) {
        AxleKeeper x = new AxleKeeper();
        due.is("section(3, 7)", x.section(3, 7), UNKNOWN);
        due.is("head(4, 10)", x.head(4, 10), UNKNOWN);
        due.is("feel(4, 4)", x.feel(4, 4), UNKNOWN);
        due.is("go(4, 2, 1)", x.go(4, 2, 1), UNKNOWN);
        due.is("go(4, 0, 10)", x.go(4, 0, 10), UNKNOWN);
        due.is("miss(-1, -1, 1)", x.miss(-1, -1, 1), UNKNOWN);
        due.is("miss(-1, 0, 0)", x.miss(-1, 0, 0), UNKNOWN);
        due.is("write(3, 4)", x.write(3, 4), UNKNOWN);
    }

    /** Where nothing else could be answered but NOT: no section is DISTURBED, no head FAULTY, no IMAGE kept. */
    private static void unknownAheadOfNot(Due due) {
        AxleKeeper x = new AxleKeeper();
        due.is("reset(3)", x.reset(3), UNKNOWN);
        due.is("repair(4)", x.repair(4), UNKNOWN);
        due.is("goBack(2)", x.goBack(2), UNKNOWN);
        due.is("feel(4, 0)", x.feel(4, 0), UNKNOWN);
        due.is("go(4, 0, 1)", x.go(4, 0, 1), UNKNOWN);
        due.is("miss(4, 0, 1)", x.miss(4, 0, 1), UNKNOWN);
    }

    private static AxleKeeper withFullBook() {
        AxleKeeper x = new AxleKeeper();
        for (int i = 0; i < 20; i++) x.write(i % 3, 0);
        return x;
    }

    private static void unknownAheadOfFull(Due due) {
        AxleKeeper x = withFullBook();
        due.is("write(3, 0)", x.write(3, 0), UNKNOWN);
        due.is("write(-1, 9)", x.write(-1, 9), UNKNOWN);
        due.is("write(2, 0)", x.write(2, 0), FULL);
    }

    private static void outsideAheadOfNot(Due due) {
        AxleKeeper x = new AxleKeeper();
        due.is("undo(17) of none", x.undo(17), OUTSIDE);
        due.is("undo(0) of none", x.undo(0), OUTSIDE);
        due.is("go(1, 0, 10) of none", x.go(1, 0, 10), OUTSIDE);
        due.is("go(1, 2, 1) of none", x.go(1, 2, 1), OUTSIDE);
        due.is("miss(1, 0, 10) of none", x.miss(1, 0, 10), OUTSIDE);
        due.is("miss(1, 2, 1) of none", x.miss(1, 2, 1), OUTSIDE);
        x.feel(0, 3);
        due.is("feel(0, 4) faulty", x.feel(0, 4), OUTSIDE);
        due.is("feel(0, -1) faulty", x.feel(0, -1), OUTSIDE);
        due.is("go(0, 0, 0) faulty", x.go(0, 0, 0), OUTSIDE);
        x.feel(3, 1);
        due.is("go(3, 1, 10) not in state 0", x.go(3, 1, 10), OUTSIDE);
    }

    private static void outsideAheadOfFull(Due due) {
        AxleKeeper x = withFullBook();
        due.is("write(0, 4)", x.write(0, 4), OUTSIDE);
        due.is("write(0, -1)", x.write(0, -1), OUTSIDE);
        due.is("write(0, 0)", x.write(0, 0), FULL);
    }

    private record Refused(String call, ToIntFunction<AxleKeeper> deed, int refusal) {
    }

    /** Calls that Look.busy refuses. */
    private static List<Refused> refusals() {
        List<Refused> all = new ArrayList<>();
        for (int what : new int[] {-1, 17, MIN, MAX}) all.add(new Refused("told(" + what + ")", x -> x.told(what), OUTSIDE));
        for (int s : new int[] {-1, 4, MIN, MAX}) {
            all.add(new Refused("section(" + s + ", 0)", x -> x.section(s, 0), UNKNOWN));
            all.add(new Refused("reset(" + s + ")", x -> x.reset(s), UNKNOWN));
            all.add(new Refused("write(" + s + ", 0)", x -> x.write(s, 0), UNKNOWN));
        }
        for (int h : new int[] {-1, 5, MIN, MAX}) {
            all.add(new Refused("head(" + h + ", 0)", x -> x.head(h, 0), UNKNOWN));
            all.add(new Refused("feel(" + h + ", 1)", x -> x.feel(h, 1), UNKNOWN));
            all.add(new Refused("go(" + h + ", 0, 1)", x -> x.go(h, 0, 1), UNKNOWN));
            all.add(new Refused("miss(" + h + ", 0, 1)", x -> x.miss(h, 0, 1), UNKNOWN));
            all.add(new Refused("repair(" + h + ")", x -> x.repair(h), UNKNOWN));
        }
        for (int what : new int[] {-1, 10, MIN, MAX}) {
            all.add(new Refused("section(0, " + what + ")", x -> x.section(0, what), OUTSIDE));
            all.add(new Refused("head(0, " + what + ")", x -> x.head(0, what), OUTSIDE));
            all.add(new Refused("line(" + what + ", false)", x -> x.line(what, false), OUTSIDE));
            all.add(new Refused("line(" + what + ", true)", x -> x.line(what, true), OUTSIDE));
            all.add(new Refused("feel(0, " + what + ")", x -> x.feel(0, what), OUTSIDE));
            all.add(new Refused("go(0, " + what + ", 1)", x -> x.go(0, what, 1), OUTSIDE));
            all.add(new Refused("go(0, 0, " + what + ")", x -> x.go(0, 0, what), OUTSIDE));
            all.add(new Refused("miss(0, " + what + ", 1)", x -> x.miss(0, what, 1), OUTSIDE));
            all.add(new Refused("miss(0, 0, " + what + ")", x -> x.miss(0, 0, what), OUTSIDE));
            all.add(new Refused("write(0, " + what + ")", x -> x.write(0, what), OUTSIDE));
            all.add(new Refused("keep(" + what + ")", x -> x.keep(what), UNKNOWN));
            all.add(new Refused("goBack(" + what + ")", x -> x.goBack(what), UNKNOWN));
        }
        for (int n : new int[] {0, -1, 17, MIN, MAX}) {
            all.add(new Refused("drift(" + n + ")", x -> x.drift(n), OUTSIDE));
            all.add(new Refused("undo(" + n + ")", x -> x.undo(n), OUTSIDE));
        }
        for (int lost : new int[] {32, -1, MIN, MAX}) {
            all.add(new Refused("tick(" + lost + ")", x -> x.tick(lost), UNKNOWN));
            all.add(new Refused("would(" + lost + ")", x -> x.would(lost), UNKNOWN));
        }
        all.add(new Refused("section(0, 7)", x -> x.section(0, 7), OUTSIDE));
        all.add(new Refused("line(0, false)", x -> x.line(0, false), OUTSIDE));
        all.add(new Refused("line(7, false)", x -> x.line(7, false), OUTSIDE));
        all.add(new Refused("line(1, true)", x -> x.line(1, true), OUTSIDE));
        all.add(new Refused("line(7, true)", x -> x.line(7, true), OUTSIDE));
        all.add(new Refused("feel(0, 4)", x -> x.feel(0, 4), OUTSIDE));
        all.add(new Refused("go(0, 0, 0)", x -> x.go(0, 0, 0), OUTSIDE));
        all.add(new Refused("go(0, 2, 1)", x -> x.go(0, 2, 1), OUTSIDE));
        all.add(new Refused("miss(0, 0, 0)", x -> x.miss(0, 0, 0), OUTSIDE));
        all.add(new Refused("miss(0, 2, 1)", x -> x.miss(0, 2, 1), OUTSIDE));
        all.add(new Refused("write(0, 4)", x -> x.write(0, 4), OUTSIDE));
        all.add(new Refused("seed(-1)", x -> x.seed(-1), OUTSIDE));
        all.add(new Refused("seed(MIN)", x -> x.seed(MIN), OUTSIDE));
        all.add(new Refused("keep(2)", x -> x.keep(2), UNKNOWN));
        all.add(new Refused("goBack(2)", x -> x.goBack(2), UNKNOWN));
        all.addAll(notNow());
        return all;
    }

    private static List<Refused> notNow() {
        return List.of(
            new Refused("feel(0, 0) in that state", x -> x.feel(0, 0), NOT),
            new Refused("feel(3, 2) in that state", x -> x.feel(3, 2), NOT),
            new Refused("feel(4, 1) faulty", x -> x.feel(4, 1), NOT),
            new Refused("feel(4, 3) faulty", x -> x.feel(4, 3), NOT),
            new Refused("go(2, 0, 3) of two", x -> x.go(2, 0, 3), NOT),
            new Refused("go(3, 0, 1) not in state 0", x -> x.go(3, 0, 1), NOT),
            new Refused("go(4, 1, 1) faulty", x -> x.go(4, 1, 1), NOT),
            new Refused("miss(2, 0, 3) of two", x -> x.miss(2, 0, 3), NOT),
            new Refused("miss(4, 0, 1) of none", x -> x.miss(4, 0, 1), NOT),
            new Refused("reset(0) taken", x -> x.reset(0), NOT),
            new Refused("reset(3) in sweep", x -> x.reset(3), NOT),
            new Refused("repair(0) not faulty", x -> x.repair(0), NOT),
            new Refused("goBack(1) not kept", x -> x.goBack(1), NOT));
    }

    private static final String[] BEHIND = {"nothing", "undo(1)", "undo(12)", "goBack(0)", "goBack(1)", "drift(3)", "tear()", "tick(2)"};

    private static void then(AxleKeeper x, int which) {
        switch (which) {
            case 1: x.undo(1); break;
            case 2: x.undo(12); break;
            case 3: x.goBack(0); break;
            case 4: x.goBack(1); break;
            case 5: x.drift(3); break;
            case 6: x.tear(); break;
            case 7: x.tick(2); break;
            default: break;
        }
    }

    /** What goes on behind a refused call is as without it, whatever is asked or done. */
    private static void leavesAll(Due due, Refused refused, int more) {
        for (int which = 0; which < BEHIND.length; which++) {
            AxleKeeper x = Look.busy(more);
            AxleKeeper y = Look.busy(more);
            due.is(refused.call, refused.deed.applyAsInt(x), refused.refusal);
            then(x, which);
            then(y, which);
            Look.same(due, refused.call + ", then " + BEHIND[which], x, y);
        }
    }

    private static void refusedChangesNothing(Due due) {
        Look.calls(due, "busy", Look.busy(0), 1, 2, 1, 3);
        due.is("the deeds of busy", Look.busy(0).told(16), 12);
        for (Refused refused : refusals()) leavesAll(due, refused, 0);
        leavesAll(due, new Refused("undo(13) of twelve", x -> x.undo(13), NOT), 0);
        AxleKeeper x = withFullBook();
        AxleKeeper y = withFullBook();
        due.is("write(1, 3) into a full book", x.write(1, 3), FULL);
        Look.same(due, "write(1, 3) into a full book", x, y);
        due.is("tear() behind it", x.tear(), 20);
    }

    /** With all sixteen kept, a refused call that were kept as a deed would drive out the oldest. */
    private static void refusedIsNotUndone(Due due) {
        due.is("the deeds", Look.busy(9).told(16), 16);
        for (Refused refused : refusals()) {
            AxleKeeper x = Look.busy(9);
            AxleKeeper y = Look.busy(9);
            refused.deed.applyAsInt(x);
            due.is("undo(16) behind " + refused.call, x.undo(16), 0);
            y.undo(16);
            Look.same(due, "undo(16) behind " + refused.call, x, y);
        }
    }
}
