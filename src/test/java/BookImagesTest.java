/** Promises 15, 16, 18 and 19: write, tear, keep, goBack. */
public final class BookImagesTest {
    private static final Due due = new Due("BookImagesTest");

    public static void main(String[] args) {
        entries();
        firstWrong();
        fullBook();
        entryOfASectionThatIsGone();
        images();
        imagesKeepLineAndSeed();
        imagesAndUndo();
        due.end();
    }

    private static void entries() {
        AxleKeeper x = new AxleKeeper();
        due.is("tear() of none", x.tear(), 0);
        due.is("write(0, 0)", x.write(0, 0), 1);
        due.is("write(2, 3)", x.write(2, 3), 2);
        due.is("told(14)", x.told(14), 2);
        due.is("write(3, 9)", x.write(3, 9), AxleKeeper.UNKNOWN);
        due.is("write(-1, 0)", x.write(-1, 0), AxleKeeper.UNKNOWN);
        due.is("write(0, 4)", x.write(0, 4), AxleKeeper.OUTSIDE);
        due.is("write(0, -1)", x.write(0, -1), AxleKeeper.OUTSIDE);
        due.is("write(0, MAX)", x.write(0, Integer.MAX_VALUE), AxleKeeper.OUTSIDE);
        due.is("told(14)", x.told(14), 2);
        due.is("no deed", x.told(16), 0);
        due.is("tear()", x.tear(), 2);
        due.is("told(14)", x.told(14), 0);
        due.is("told(15)", x.told(15), -1);
    }

    private static void firstWrong() {
        AxleKeeper x = new AxleKeeper();
        x.write(0, 0);
        x.write(1, 0);
        due.is("as it is", x.told(15), -1);
        x.write(1, 2);
        x.write(0, 1);
        due.is("the first of two", x.told(15), 2);
        x.go(0, 0, 1);
        due.is("calls change by ticks alone", x.told(15), 2);
        x.tick(0);
        due.is("taken now", x.told(15), 0);
        x.undo(2);
        due.is("undone", x.told(15), 2);
        due.is("entries stay", x.told(14), 4);
    }

    private static void fullBook() {
        AxleKeeper x = new AxleKeeper();
        for (int i = 1; i <= 20; i++) due.is("write", x.write(i % 3, 0), i);
        due.is("write is full", x.write(0, 0), AxleKeeper.FULL);
        due.is("first unknown", x.write(5, 0), AxleKeeper.UNKNOWN);
        due.is("first outside", x.write(0, 5), AxleKeeper.OUTSIDE);
        due.is("told(14)", x.told(14), 20);
        due.is("told(15)", x.told(15), -1);
        x.line(3, false);
        due.is("line tears it", x.told(14), 0);
        due.is("write", x.write(0, 3), 1);
    }

    private static void entryOfASectionThatIsGone() {
        AxleKeeper x = new AxleKeeper();
        x.line(6, false);
        x.write(1, 0);
        x.write(5, 0);
        due.is("as it is", x.told(15), -1);
        x.undo(1);
        due.is("entries stay", x.told(14), 2);
        due.is("no such section, no such call", x.told(15), 1);
    }

    private static void images() {
        AxleKeeper x = new AxleKeeper();
        int[] wrong = {-1, 2, Integer.MIN_VALUE, Integer.MAX_VALUE};
        for (int i : wrong) {
            due.is("keep(" + i + ")", x.keep(i), AxleKeeper.UNKNOWN);
            due.is("goBack(" + i + ")", x.goBack(i), AxleKeeper.UNKNOWN);
        }
        due.is("goBack(0) not kept", x.goBack(0), AxleKeeper.NOT);
        x.go(0, 0, 2);
        due.is("keep(1)", x.keep(1), 1);
        due.is("goBack(0) not kept", x.goBack(0), AxleKeeper.NOT);
        x.go(0, 0, 3);
        due.is("keep(0)", x.keep(0), 1);
        x.feel(1, 3);
        x.tick(1);
        due.is("goBack(1)", x.goBack(1), 1);
        due.is("true", x.told(12), 2);
        due.is("not faulty", x.told(10), 0);
        due.is("ticks", x.told(3), 0);
        due.is("goBack(0)", x.goBack(0), 1);
        due.is("true", x.told(12), 5);
        x.go(0, 0, 4);
        due.is("goBack(0) again", x.goBack(0), 1);
        due.is("true", x.told(12), 5);
        due.is("keep(1) anew", x.keep(1), 1);
        x.go(0, 0, 1);
        x.goBack(1);
        due.is("true", x.told(12), 5);
    }

    private static void imagesKeepLineAndSeed() {
        AxleKeeper x = new AxleKeeper();
        x.line(5, true);
        x.seed(1234);
        x.tick(3);
        x.keep(0);
        x.write(4, 0);
        x.line(2, false);
        x.write(1, 1);
        x.seed(99);
        due.is("images stay behind a line", x.goBack(0), 1);
        due.is("sections", x.told(0), 5);
        due.is("ring", x.told(2), 1);
        due.is("heads", x.told(1), 5);
        due.is("age", x.head(1, 4), 1);
        due.is("the book is not in it", x.told(14), 1);
        due.is("seed", x.seed(0), 1234);
        x.seed(1234);
        int clear = x.drift(16);
        x.goBack(0);
        due.is("the same draws", x.drift(16), clear);
    }

    private static void imagesAndUndo() {
        AxleKeeper x = new AxleKeeper();
        x.go(0, 0, 2);
        x.go(0, 0, 2);
        x.keep(0);
        due.is("nothing can be undone", x.told(16), 0);
        due.is("undo(1)", x.undo(1), AxleKeeper.NOT);
        x.go(0, 0, 2);
        due.is("undo(1)", x.undo(1), 0);
        due.is("true", x.told(12), 4);
        x.go(0, 0, 2);
        x.goBack(0);
        due.is("nothing can be undone", x.told(16), 0);
        due.is("undo(1)", x.undo(1), AxleKeeper.NOT);
        x.tick(0);
        due.is("refused keep", x.keep(2), AxleKeeper.UNKNOWN);
        due.is("refused goBack", x.goBack(1), AxleKeeper.NOT);
        due.is("one can be undone", x.told(16), 1);
    }
}
