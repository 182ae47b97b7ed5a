import java.util.Random;

/** All promises: runs of drawn calls on an AxleKeeper and on the Model, whose answers must be the same. */
public final class ModelTest {
    private static final int RUNS = 1500, CALLS = 512;
    private static final int[] WILD = {-1, 0, 7, 8, 16, 17, 20, 127, 128, 9999, Integer.MIN_VALUE, Integer.MAX_VALUE, -1000000001, 1 << 30};

    private static final Due due = new Due("ModelTest");
    private static Random random;
    private static AxleKeeper x;
    private static Model y;
    private static int swept, healed, sweptOver, suspected;

    public static void main(String[] args) {
        for (int run = 0; run < RUNS && due.wrong() == 0; run++) {
            random = new Random(run);
            x = new AxleKeeper();
            y = new Model();
            int kind = run % 3;
            for (int i = 0; i < CALLS; i++) {
                if (kind == 2) railway("run " + run + " call " + i + ": ");
                else any("run " + run + " call " + i + ": ", kind == 0 ? 6 : 40);
                if (i % 16 == 0) all("run " + run + " call " + i + ": ");
            }
            swept += y.swept;
            healed += y.healed;
        }
        due.so("sections were swept: " + swept, swept > 500);
        due.so("sections were healed: " + healed, healed > 500);
        due.so("heads were swept over: " + sweptOver, sweptOver > 1000);
        due.so("heads were suspects: " + suspected, suspected > 1000);
        System.out.println("ModelTest: " + swept + " swept, " + healed + " healed, " + sweptOver + " swept over, " + suspected + " suspects");
        due.end();
    }

    private static int some(int below, int wildOnceIn) {
        return random.nextInt(wildOnceIn) == 0 ? WILD[random.nextInt(WILD.length)] : random.nextInt(below);
    }

    private static void any(String run, int wild) {
        int a = some(17, wild), h = some(7, wild), s = some(6, wild), b = some(10, wild), two = some(2, wild);
        int lost = random.nextInt(3) == 0 ? some(128, wild) : 0;
        switch (random.nextInt(20)) {
            case 0: due.is(run + "told(" + a + ")", x.told(a), y.told(a)); break;
            case 1: due.is(run + "section(" + s + ", " + b + ")", x.section(s, b), y.section(s, b)); break;
            case 2: due.is(run + "head(" + h + ", " + b + ")", x.head(h, b), y.head(h, b)); break;
            case 3:
                if (random.nextInt(8) != 0) break;
                boolean ring = random.nextBoolean();
                due.is(run + "line(" + (s + 1) + ", " + ring + ")", x.line(s + 1, ring), y.line(s + 1, ring));
                break;
            case 4: case 5: case 6:
                int v = some(4, wild);
                due.is(run + "feel(" + h + ", " + v + ")", x.feel(h, v), y.feel(h, v));
                break;
            case 7: case 8: due.is(run + "go(" + h + ", " + two + ", " + b + ")", x.go(h, two, b), y.go(h, two, b)); break;
            case 9: due.is(run + "miss(" + h + ", " + two + ", " + b + ")", x.miss(h, two, b), y.miss(h, two, b)); break;
            case 10: case 11: due.is(run + "tick(" + lost + ")", x.tick(lost), y.tick(lost)); break;
            case 12: due.is(run + "reset(" + s + ")", x.reset(s), y.reset(s)); break;
            case 13: due.is(run + "repair(" + h + ")", x.repair(h), y.repair(h)); break;
            case 14: due.is(run + "drift(" + a + ")", x.drift(a), y.drift(a)); break;
            case 15: due.is(run + "undo(" + a + ")", x.undo(a), y.undo(a)); break;
            case 16: due.is(run + "would(" + lost + ")", x.would(lost), y.would(lost)); break;
            case 17:
                int call = some(4, wild);
                due.is(run + "write(" + s + ", " + call + ")", x.write(s, call), y.write(s, call));
                if (random.nextInt(30) == 0) due.is(run + "tear()", x.tear(), y.tear());
                break;
            case 18:
                int seed = random.nextInt();
                due.is(run + "seed(" + seed + ")", x.seed(seed), y.seed(seed));
                break;
            default:
                if (random.nextBoolean()) due.is(run + "keep(" + two + ")", x.keep(two), y.keep(two));
                else due.is(run + "goBack(" + two + ")", x.goBack(two), y.goBack(two));
        }
    }

    /** Trains that go on as trains do, with a fault now and then, so that sections are disturbed, swept and healed often. */
    private static void railway(String run) {
        int h = random.nextInt(y.told(1)), s = random.nextInt(y.told(0)), n = 1 + random.nextInt(8) / 7;
        int side = random.nextInt(2);
        switch (random.nextInt(24)) {
            case 0: if (random.nextInt(3) == 0) due.is(run + "feel(" + h + ", 3)", x.feel(h, 3), y.feel(h, 3)); break;
            case 1: due.is(run + "miss(" + h + ", " + side + ", 1)", x.miss(h, side, 1), y.miss(h, side, 1)); break;
            case 2: due.is(run + "undo(1)", x.undo(1), y.undo(1)); break;
            case 3: if (random.nextInt(6) == 0) due.is(run + "line(" + (n + 1) + ", false)", x.line(n + 1, false), y.line(n + 1, false)); break;
            case 4: case 5: for (h = 0; h < y.told(1); h++) due.is(run + "repair(" + h + ")", x.repair(h), y.repair(h)); break;
            case 6: case 16: due.is(run + "reset(" + s + ")", x.reset(s), y.reset(s)); break;
            case 7: case 8: case 9: case 10: case 11: case 12: case 13: case 14:
                due.is(run + "go(" + h + ", " + side + ", " + n + ")", x.go(h, side, n), y.go(h, side, n));
                break;
            case 15: due.is(run + "tick(" + (1 << h) + ")", x.tick(1 << h), y.tick(1 << h)); break;
            default: due.is(run + "tick(0)", x.tick(0), y.tick(0));
        }
    }

    private static void all(String run) {
        for (int what = 0; what <= 16; what++) due.is(run + "told(" + what + ")", x.told(what), y.told(what));
        for (int s = 0; s < y.told(0); s++) {
            for (int what = 0; what <= 6; what++) due.is(run + "section(" + s + ", " + what + ")", x.section(s, what), y.section(s, what));
        }
        for (int h = 0; h < y.told(1); h++) {
            for (int what = 0; what <= 9; what++) due.is(run + "head(" + h + ", " + what + ")", x.head(h, what), y.head(h, what));
            sweptOver += y.head(h, 7);
            if (y.head(h, 9) != Model.NONE) suspected++;
        }
    }
}
