/** Promises 5, 6 and 11: line, feel, repair. */
public final class FeelTest {
    private static final Due due = new Due("FeelTest");

    public static void main(String[] args) {
        lines();
        lineIsAsAtFirst();
        allTheWayRight();
        allTheWayLeft();
        backTheWayItCame();
        thereAndBackAndThrough();
        bothFeelersAtOnce();
        refusals();
        repairs();
        due.end();
    }

    private static void lines() {
        AxleKeeper x = new AxleKeeper();
        for (int n = 1; n <= 6; n++) {
            due.is("line(" + n + ", false)", x.line(n, false), n + 1);
            due.is("sections", x.told(0), n);
            due.is("heads", x.told(1), n + 1);
            due.is("no ring", x.told(2), 0);
            due.is("all clear", x.told(4), (1 << n) - 1);
            due.is("left end", x.head(0, 8), -1);
            due.is("right end", x.head(n, 8), -1);
        }
        for (int n = 2; n <= 6; n++) {
            due.is("line(" + n + ", true)", x.line(n, true), n);
            due.is("sections", x.told(0), n);
            due.is("heads", x.told(1), n);
            due.is("a ring", x.told(2), 1);
            due.is("head 0 joins in a ring", x.head(0, 8), 2000);
        }
        int[] wrong = {0, -1, 7, Integer.MIN_VALUE, Integer.MAX_VALUE};
        for (int n : wrong) {
            due.is("line(" + n + ", false)", x.line(n, false), AxleKeeper.OUTSIDE);
            due.is("line(" + n + ", true)", x.line(n, true), AxleKeeper.OUTSIDE);
        }
        due.is("line(1, true)", x.line(1, true), AxleKeeper.OUTSIDE);
        due.is("what is refused changes nothing", x.told(0), 6);
        due.is("eleven deeds", x.told(16), 11);
    }

    private static void lineIsAsAtFirst() {
        AxleKeeper x = new AxleKeeper();
        x.go(0, 0, 3);
        x.feel(1, 2);
        x.feel(2, 3);
        x.tick(0);
        x.tick(9);
        x.write(0, 0);
        due.is("swept over ahead of line", x.head(1, 7), 1);
        due.is("line(3, false)", x.line(3, false), 4);
        int[] told = {3, 4, 0, 0, 7, 0, 0, 0, 0, 0, 0, 0, 0, 1000, 0, -1, 6};
        for (int what = 0; what < told.length; what++) due.is("line told(" + what + ")", x.told(what), told[what]);
        for (int h = 0; h < 4; h++) {
            int[] head = {0, 4, 10000, 0, 0, 0, 0, 0};
            for (int what = 0; what < head.length; what++) due.is("line head(" + h + ", " + what + ")", x.head(h, what), head[what]);
        }
        for (int s = 0; s < 3; s++) {
            int[] section = {0, 1000, 0, 0, 0, 4, 3 - s};
            for (int what = 0; what < section.length; what++) due.is("line section(" + s + ", " + what + ")", x.section(s, what), section[what]);
        }
    }

    private static void allTheWayRight() {
        AxleKeeper x = new AxleKeeper();
        int[] way = {2, 3, 1, 0};
        for (int i = 0; i < 4; i++) {
            due.is("right feel(1, " + way[i] + ")", x.feel(1, way[i]), i == 3 ? 1 : 0);
            due.is("right state", x.head(1, 0), way[i]);
            due.is("right wheel", x.head(1, 1), i == 3 ? 4 : 5 + i);
        }
        due.is("right count", x.head(1, 2), 10001);
        due.is("feelers move no axles", x.told(12), 0);
        due.is("four deeds", x.told(16), 4);
    }

    private static void allTheWayLeft() {
        AxleKeeper x = new AxleKeeper();
        int[] way = {1, 3, 2, 0};
        for (int i = 0; i < 4; i++) {
            due.is("left feel(1, " + way[i] + ")", x.feel(1, way[i]), i == 3 ? 2 : 0);
            due.is("left wheel", x.head(1, 1), i == 3 ? 4 : 3 - i);
        }
        due.is("left count", x.head(1, 2), 9999);
        due.is("nothing heard yet", x.head(1, 3), 0);
        x.tick(0);
        due.is("heard left over by 16", x.head(1, 3), 15);
        due.is("one more at the left", x.section(0, 1), 1001);
        due.is("one less at the right", x.section(1, 1), 999);
    }

    private static void backTheWayItCame() {
        AxleKeeper x = new AxleKeeper();
        int[] way = {2, 3, 1, 3, 2, 0};
        for (int v : way) due.is("back feel(0, " + v + ")", x.feel(0, v), 0);
        due.is("back wheel", x.head(0, 1), 4);
        due.is("back count", x.head(0, 2), 10000);
    }

    private static void thereAndBackAndThrough() {
        AxleKeeper x = new AxleKeeper();
        int[] way = {1, 3, 1, 0, 2, 3, 2, 3, 1};
        for (int v : way) due.is("through feel(3, " + v + ")", x.feel(3, v), 0);
        due.is("through wheel", x.head(3, 1), 7);
        due.is("through feel(3, 0)", x.feel(3, 0), 1);
        due.is("through count", x.head(3, 2), 10001);
    }

    private static void bothFeelersAtOnce() {
        int[][] jumps = {{0, 3}, {3, 0}, {1, 2}, {2, 1}};
        int[][] ways = {{}, {2, 3}, {1}, {2}};
        for (int i = 0; i < jumps.length; i++) {
            AxleKeeper x = new AxleKeeper();
            for (int v : ways[i]) x.feel(2, v);
            int wheel = x.head(2, 1);
            due.is("jump from " + jumps[i][0], x.feel(2, jumps[i][1]), 3);
            due.is("state stays", x.head(2, 0), jumps[i][0]);
            due.is("places stay", x.head(2, 1), wheel);
            due.is("it is faulty", x.head(2, 5), 1);
            due.is("not told yet", x.head(2, 6), 0);
            due.is("faulty heads", x.told(10), 4);
            due.is("it feels nothing now", x.feel(2, jumps[i][1]), AxleKeeper.NOT);
            due.is("not a step either", x.feel(2, jumps[i][0] ^ 1), AxleKeeper.NOT);
            x.tick(0);
            due.is("told now", x.head(2, 6), 1);
        }
    }

    private static void refusals() {
        AxleKeeper x = new AxleKeeper();
        due.is("feel(-1, 9)", x.feel(-1, 9), AxleKeeper.UNKNOWN);
        due.is("feel(4, 2)", x.feel(4, 2), AxleKeeper.UNKNOWN);
        due.is("feel(0, 4)", x.feel(0, 4), AxleKeeper.OUTSIDE);
        due.is("feel(0, -1)", x.feel(0, -1), AxleKeeper.OUTSIDE);
        due.is("feel(0, MIN)", x.feel(0, Integer.MIN_VALUE), AxleKeeper.OUTSIDE);
        due.is("feel(0, 0)", x.feel(0, 0), AxleKeeper.NOT);
        x.feel(0, 3);
        due.is("faulty feel(0, 4) is first outside", x.feel(0, 4), AxleKeeper.OUTSIDE);
        due.is("one deed", x.told(16), 1);
    }

    private static void repairs() {
        AxleKeeper x = new AxleKeeper();
        due.is("repair(0) not faulty", x.repair(0), AxleKeeper.NOT);
        due.is("repair(4)", x.repair(4), AxleKeeper.UNKNOWN);
        due.is("repair(-1)", x.repair(-1), AxleKeeper.UNKNOWN);
        x.feel(0, 3);
        due.is("repair(0) in state 0", x.repair(0), 1);
        due.is("repaired", x.head(0, 5), 0);
        x.go(0, 0, 2);
        x.feel(0, 2);
        x.feel(0, 3);
        x.feel(0, 0);
        due.is("repair(0) in state 3", x.repair(0), 0);
        due.is("state 0", x.head(0, 0), 0);
        due.is("0 places", x.head(0, 1), 4);
        due.is("the count stays", x.head(0, 2), 10002);
        due.is("repair(0) again", x.repair(0), AxleKeeper.NOT);
        due.is("go(0, 0, 1) behind repair", x.go(0, 0, 1), 3);
        due.is("deeds", x.told(16), 8);
    }
}
