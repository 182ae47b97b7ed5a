import java.util.Arrays;

/** Keeps sections of a railway by counting axles. What each call answers is told by its promise in DOC.md. */
public final class AxleKeeper {
    public static final int NONE = -1, UNKNOWN = -1000000001, OUTSIDE = -1000000002, NOT = -1000000003, FULL = -1000000004;

    private static final int CLEAR = 0, TAKEN = 1, DISTURBED = 2, SWEEP = 3;
    private static final int RIGHT = 0, LEFT = 1;
    private static final int MOST_AXLES = 9;
    private static final int MOST_DRIFTS = 16;
    private static final int ALLOWED = 0;

    private final Line now = new Line();
    private final Past past = new Past();
    private final Book book = new Book();
    private final Draws draws = new Draws();
    private final Images images = new Images();
    private final int[] asIs = new int[Line.WORDS];

    public AxleKeeper() {
        now.begin(3, false);
    }

    // ---- what is so

    public int told(int what) {
        switch (what) {
            case 0: return now.sections;
            case 1: return now.heads();
            case 2: return now.ring ? 1 : 0;
            case 3: return now.ticks;
            case 4: return now.called(CLEAR);
            case 5: return now.called(TAKEN);
            case 6: return now.called(DISTURBED);
            case 7: return now.called(SWEEP);
            case 8: return now.wronglyClear();
            case 9: return now.idle();
            case 10: return now.faultyHeads();
            case 11: return now.suspects();
            case 12: return now.axlesInAll();
            case 13: return now.sumOfAll() + 1000;
            case 14: return book.size;
            case 15: return book.firstWrong(now);
            case 16: return past.size;
            default: return OUTSIDE;
        }
    }

    public int section(int s, int what) {
        if (!now.hasSection(s)) return UNKNOWN;
        switch (what) {
            case 0: return now.call[s];
            case 1: return now.sum[s] + 1000;
            case 2: return now.axles[s];
            case 3: return now.hasTrouble(s) ? 1 : 0;
            case 4: return now.call[s] == SWEEP ? now.entered[s] : 0;
            case 5: return now.lossesLeft(s);
            case 6: return now.clearRun(s);
            default: return OUTSIDE;
        }
    }

    public int head(int h, int what) {
        if (!now.hasHead(h)) return UNKNOWN;
        switch (what) {
            case 0: return now.state[h];
            case 1: return now.wheel[h] + 4;
            case 2: return now.count[h] + 10000;
            case 3: return now.heard[h];
            case 4: return now.age[h];
            case 5: return now.faulty[h];
            case 6: return now.heardFaulty[h];
            case 7: return now.sweptOver[h];
            case 8: return now.joins(h) ? now.joint(h) + 2000 : NONE;
            case 9: return miscountTold(now.miscount(h));
            default: return OUTSIDE;
        }
    }

    private static int miscountTold(int by) {
        return by == 0 ? NONE : by + 10;
    }

    // ---- deeds

    public int line(int n, boolean ring) {
        if (n < (ring ? 2 : 1) || n > Line.MOST_SECTIONS) return OUTSIDE;
        past.add(now);
        now.begin(n, ring);
        book.size = 0;
        return now.heads();
    }

    public int feel(int h, int v) {
        if (!now.hasHead(h)) return UNKNOWN;
        if (v < 0 || v > 3) return OUTSIDE;
        if (now.faulty[h] == 1 || now.state[h] == v) return NOT;
        past.add(now);
        return now.stepTo(h, v);
    }

    public int go(int h, int side, int n) {
        int refusal = refusalToMove(h, side, n);
        if (refusal != ALLOWED) return refusal;
        if (!now.feelsAll(h)) return NOT;
        past.add(now);
        return now.carry(h, side, n, true);
    }

    public int miss(int h, int side, int n) {
        int refusal = refusalToMove(h, side, n);
        if (refusal != ALLOWED) return refusal;
        past.add(now);
        return now.carry(h, side, n, false);
    }

    private int refusalToMove(int h, int side, int n) {
        if (!now.hasHead(h)) return UNKNOWN;
        if (side < RIGHT || side > LEFT || n < 1 || n > MOST_AXLES) return OUTSIDE;
        return now.canCarry(h, side, n) ? ALLOWED : NOT;
    }

    public int tick(int lost) {
        if (!now.hasHeads(lost)) return UNKNOWN;
        past.add(now);
        now.pass(lost);
        return now.called(CLEAR);
    }

    public int reset(int s) {
        if (!now.hasSection(s)) return UNKNOWN;
        if (now.call[s] != DISTURBED) return NOT;
        past.add(now);
        int was = now.sum[s];
        now.awaitSweep(s);
        return was + 1000;
    }

    public int repair(int h) {
        if (!now.hasHead(h)) return UNKNOWN;
        if (now.faulty[h] == 0) return NOT;
        past.add(now);
        int was = now.state[h];
        now.mend(h);
        return was == 0 ? 1 : 0;
    }

    public int drift(int n) {
        if (n < 1 || n > MOST_DRIFTS) return OUTSIDE;
        for (int i = 0; i < n; i++) {
            past.add(now);
            driftOnce();
        }
        return now.called(CLEAR);
    }

    /** All five draws are made each time, whatever becomes of them: later draws depend on it. */
    private void driftOnce() {
        int h = draws.next(now.heads());
        int side = draws.next(2);
        int n = draws.next(3) + 1;
        int luck = draws.next(16);
        int lost = draws.next(1 << now.heads());
        if (now.canCarry(h, side, n)) now.carry(h, side, n, luck != 0 && now.feelsAll(h));
        now.pass(luck < 4 ? lost : 0);
    }

    public int undo(int n) {
        if (n < 1 || n > Past.MOST) return OUTSIDE;
        if (n > past.size) return NOT;
        past.takeBack(n, now);
        return past.size;
    }

    // ---- asked

    public int would(int lost) {
        if (!now.hasHeads(lost)) return UNKNOWN;
        now.save(asIs);
        now.pass(lost);
        int clear = now.called(CLEAR);
        now.load(asIs);
        return clear;
    }

    // ---- the book

    public int write(int s, int call) {
        if (!now.hasSection(s)) return UNKNOWN;
        if (call < CLEAR || call > SWEEP) return OUTSIDE;
        if (book.size >= Book.MOST) return FULL;
        book.add(s, call);
        return book.size;
    }

    public int tear() {
        int had = book.size;
        book.size = 0;
        return had;
    }

    // ---- images

    public int seed(int v) {
        if (v < 0) return OUTSIDE;
        int was = draws.latest;
        draws.latest = v;
        return was;
    }

    public int keep(int i) {
        if (!images.hasPlace(i)) return UNKNOWN;
        images.take(i, now, draws);
        past.size = 0;
        return 1;
    }

    public int goBack(int i) {
        if (!images.hasPlace(i)) return UNKNOWN;
        if (!images.kept[i]) return NOT;
        images.giveBack(i, now, draws);
        past.size = 0;
        return 1;
    }

    /** All of sections 1 and 2 of the document: what truly is, what the heads felt, and what was heard of it. */
    private static final class Line {
        static final int MOST_SECTIONS = 6, MOST_HEADS = 7;
        static final int WORDS = 3 + 8 * MOST_HEADS + 4 * MOST_SECTIONS;
        private static final int OUT = -1;
        private static final int MOST_TICKS = 9999, MOST_AGE = 99, OLDEST_TRUSTED = 3, MOST_MISCOUNT = 9;
        /** Of each STATE, how far it is along the way to the right 0, 2, 3, 1. */
        private static final int[] PLACE = {0, 3, 1, 2};

        int sections;
        boolean ring;
        int ticks;

        final int[] state = new int[MOST_HEADS];
        final int[] wheel = new int[MOST_HEADS];
        final int[] count = new int[MOST_HEADS];
        final int[] faulty = new int[MOST_HEADS];
        final int[] heard = new int[MOST_HEADS];
        final int[] heardFaulty = new int[MOST_HEADS];
        final int[] age = new int[MOST_HEADS];
        final int[] sweptOver = new int[MOST_HEADS];

        final int[] sum = new int[MOST_SECTIONS];
        final int[] call = new int[MOST_SECTIONS];
        final int[] entered = new int[MOST_SECTIONS];
        final int[] axles = new int[MOST_SECTIONS];

        void begin(int n, boolean inRing) {
            sections = n;
            ring = inRing;
            ticks = 0;
            Arrays.fill(state, 0);
            Arrays.fill(wheel, 0);
            Arrays.fill(count, 0);
            Arrays.fill(faulty, 0);
            Arrays.fill(heard, 0);
            Arrays.fill(heardFaulty, 0);
            Arrays.fill(age, 0);
            Arrays.fill(sweptOver, 0);
            Arrays.fill(sum, 0);
            Arrays.fill(call, CLEAR);
            Arrays.fill(entered, 0);
            Arrays.fill(axles, 0);
        }

        // -- where things lie

        int heads() {
            return ring ? sections : sections + 1;
        }

        boolean hasSection(int s) {
            return s >= 0 && s < sections;
        }

        boolean hasHead(int h) {
            return h >= 0 && h < heads();
        }

        /** Whether a SET names no HEAD that there is not. */
        boolean hasHeads(int set) {
            return set >>> heads() == 0;
        }

        private int leftOf(int h) {
            if (h > 0) return h - 1;
            return ring ? sections - 1 : OUT;
        }

        private int rightOf(int h) {
            return h < sections ? h : OUT;
        }

        private int rightHead(int s) {
            return ring && s + 1 == sections ? 0 : s + 1;
        }

        boolean joins(int h) {
            int left = leftOf(h);
            int right = rightOf(h);
            return hasSection(left) && hasSection(right) && left != right;
        }

        // -- what a head feels, and axles that go

        /** FEELERS of a HEAD that is not FAULTY become another STATE: 0 nothing WENT, 1 RIGHT, 2 LEFT, 3 it is FAULTY by it. */
        int stepTo(int h, int v) {
            int places = (PLACE[v & 3] - PLACE[state[h] & 3]) & 3;
            if (places == 2) {
                faulty[h] = 1;
                return 3;
            }
            state[h] = v;
            wheel[h] += places == 1 ? 1 : -1;
            return countWheel(h);
        }

        private int countWheel(int h) {
            if (wheel[h] == 4) {
                wheel[h] = 0;
                count[h]++;
                return 1;
            }
            if (wheel[h] == -4) {
                wheel[h] = 0;
                count[h]--;
                return 2;
            }
            return 0;
        }

        boolean feelsAll(int h) {
            return faulty[h] == 0 && state[h] == 0;
        }

        private int from(int h, int side) {
            return side == RIGHT ? leftOf(h) : rightOf(h);
        }

        boolean canCarry(int h, int side, int n) {
            int from = from(h, side);
            return !hasSection(from) || axles[from] >= n;
        }

        /** In STATE 0 a HEAD is at 0 places, so it counts each axle whose STATES it feels once: they need not be felt one by one. */
        int carry(int h, int side, int n, boolean felt) {
            int from = from(h, side);
            int to = side == RIGHT ? rightOf(h) : leftOf(h);
            if (felt) count[h] += side == RIGHT ? n : -n;
            if (hasSection(from)) axles[from] -= n;
            if (!hasSection(to)) return 0;
            axles[to] += n;
            return axles[to];
        }

        void mend(int h) {
            faulty[h] = 0;
            state[h] = 0;
            wheel[h] = 0;
        }

        // -- a tick

        void pass(int lost) {
            hear(lost);
            for (int s = 0; s < sections; s++) judge(s);
            for (int h = 0; h < heads(); h++) {
                if (joins(h)) judgeJoint(h, leftOf(h), rightOf(h));
            }
            if (ticks < MOST_TICKS) ticks++;
        }

        private void hear(int lost) {
            for (int h = 0; h < heads(); h++) {
                if ((lost >> h & 1) == 0) receive(h);
                else if (age[h] < MOST_AGE) age[h]++;
            }
        }

        private void receive(int h) {
            int counted = count[h] & 15;
            int more = (counted - heard[h]) & 15;
            if (more > 8) more -= 16;
            addToSum(rightOf(h), more);
            addToSum(leftOf(h), -more);
            heard[h] = counted;
            heardFaulty[h] = faulty[h];
            age[h] = 0;
        }

        private void addToSum(int s, int more) {
            if (hasSection(s)) sum[s] += more;
        }

        private void judge(int s) {
            if (hasTrouble(s)) call[s] = DISTURBED;
            else if (call[s] == SWEEP) judgeSweep(s);
            else if (call[s] != DISTURBED) call[s] = sum[s] > 0 ? TAKEN : CLEAR;
        }

        private void judgeSweep(int s) {
            if (sum[s] > 0) entered[s] = 1;
            else if (entered[s] == 1) call[s] = CLEAR;
        }

        boolean hasTrouble(int s) {
            return sum[s] < 0 || hasBadHead(s);
        }

        private boolean hasBadHead(int s) {
            return isBad(s) || isBad(rightHead(s));
        }

        private boolean isBad(int h) {
            return heardFaulty[h] == 1 || age[h] > OLDEST_TRUSTED;
        }

        private void judgeJoint(int h, int left, int right) {
            if (call[left] != DISTURBED && call[right] != DISTURBED) sweptOver[h] = 0;
            else if (joint(h) > 0) sweptOver[h] = 1;
            else if (canHeal(h, left, right)) heal(h, left, right);
        }

        private boolean canHeal(int h, int left, int right) {
            return sweptOver[h] == 1 && joint(h) == 0 && !hasBadHead(left) && !hasBadHead(right);
        }

        private void heal(int h, int left, int right) {
            sum[left] = 0;
            sum[right] = 0;
            call[left] = CLEAR;
            call[right] = CLEAR;
            sweptOver[h] = 0;
        }

        /** Only of a HEAD that joins two SECTIONS. */
        int joint(int h) {
            int left = leftOf(h);
            int right = rightOf(h);
            return hasSection(left) && hasSection(right) ? sum[left] + sum[right] : 0;
        }

        void awaitSweep(int s) {
            sum[s] = 0;
            call[s] = SWEEP;
            entered[s] = 0;
        }

        // -- what is asked

        int called(int which) {
            int set = 0;
            for (int s = 0; s < sections; s++) {
                if (call[s] == which) set |= 1 << s;
            }
            return set;
        }

        int wronglyClear() {
            return called(CLEAR) & ~empty();
        }

        int idle() {
            return empty() & ~called(CLEAR);
        }

        private int empty() {
            int set = 0;
            for (int s = 0; s < sections; s++) {
                if (axles[s] == 0) set |= 1 << s;
            }
            return set;
        }

        int faultyHeads() {
            int set = 0;
            for (int h = 0; h < heads(); h++) set |= faulty[h] << h;
            return set;
        }

        int axlesInAll() {
            int all = 0;
            for (int s = 0; s < sections; s++) all += axles[s];
            return all;
        }

        int sumOfAll() {
            int all = 0;
            for (int s = 0; s < sections; s++) all += sum[s];
            return all;
        }

        int suspects() {
            int set = 0;
            for (int h = 0; h < heads(); h++) {
                if (miscount(h) != 0) set |= 1 << h;
            }
            return set;
        }

        /** BY HOW MUCH a HEAD alone could have miscounted, 0 if it is no SUSPECT. */
        int miscount(int h) {
            // if no SUM is below 0, nothing speaks for a miscount
            if (explains(h, 0)) return 0;
            for (int by = 1; by <= MOST_MISCOUNT; by++) {
                if (explains(h, by)) return by;
                if (explains(h, -by)) return -by;
            }
            return 0;
        }

        private boolean explains(int h, int by) {
            for (int s = 0; s < sections; s++) {
                int mended = sum[s];
                if (s == rightOf(h)) mended += by;
                if (s == leftOf(h)) mended -= by;
                if (mended < 0) return false;
            }
            return true;
        }

        int lossesLeft(int s) {
            int oldest = Math.max(age[s], age[rightHead(s)]);
            return Math.max(0, OLDEST_TRUSTED + 1 - oldest);
        }

        int clearRun(int s) {
            int run = 0;
            int at = s;
            while (run < sections && hasSection(at) && call[at] == CLEAR) {
                run++;
                at = at + 1 == sections && ring ? 0 : at + 1;
            }
            return run;
        }

        // -- rows that hold it all, in the order of the fields

        void save(int[] row) {
            if (row.length != WORDS) return;
            row[0] = sections;
            row[1] = ring ? 1 : 0;
            row[2] = ticks;
            int at = 3;
            at = put(state, row, at);
            at = put(wheel, row, at);
            at = put(count, row, at);
            at = put(faulty, row, at);
            at = put(heard, row, at);
            at = put(heardFaulty, row, at);
            at = put(age, row, at);
            at = put(sweptOver, row, at);
            at = put(sum, row, at);
            at = put(call, row, at);
            at = put(entered, row, at);
            put(axles, row, at);
        }

        private static int put(int[] part, int[] row, int at) {
            if (at < 0 || at > row.length - part.length) return at;
            System.arraycopy(part, 0, row, at, part.length);
            return at + part.length;
        }

        void load(int[] row) {
            if (row.length != WORDS) return;
            sections = row[0];
            ring = row[1] == 1;
            ticks = row[2];
            int at = 3;
            at = get(state, row, at);
            at = get(wheel, row, at);
            at = get(count, row, at);
            at = get(faulty, row, at);
            at = get(heard, row, at);
            at = get(heardFaulty, row, at);
            at = get(age, row, at);
            at = get(sweptOver, row, at);
            at = get(sum, row, at);
            at = get(call, row, at);
            at = get(entered, row, at);
            get(axles, row, at);
        }

        private static int get(int[] part, int[] row, int at) {
            if (at < 0 || at > row.length - part.length) return at;
            System.arraycopy(row, at, part, 0, part.length);
            return at + part.length;
        }
    }

    /** What was so ahead of each of the latest deeds. */
    private static final class Past {
        static final int MOST = 16;

        private final int[][] rows = new int[MOST][Line.WORDS];
        private int next;
        int size;

        void add(Line line) {
            line.save(rows[next]);
            next = (next + 1) % MOST;
            if (size < MOST) size++;
        }

        void takeBack(int n, Line line) {
            if (n < 1 || n > size) return;
            next = (next + MOST - n) % MOST;
            size -= n;
            line.load(rows[next]);
        }
    }

    /** What was called of sections, as somebody wrote it down. */
    private static final class Book {
        static final int MOST = 20;

        private final int[] sectionOf = new int[MOST];
        private final int[] callOf = new int[MOST];
        int size;

        void add(int s, int call) {
            if (size < 0 || size >= MOST) return;
            sectionOf[size] = s;
            callOf[size] = call;
            size++;
        }

        /** By undo and images the line can become shorter than it was at the entry: what the entry tells is then not so. */
        int firstWrong(Line line) {
            for (int i = 0; i < size && i < MOST; i++) {
                int s = sectionOf[i];
                if (!line.hasSection(s) || line.call[s] != callOf[i]) return i;
            }
            return NONE;
        }
    }

    /** The draws, each of which leaves the seed of the next. */
    private static final class Draws {
        int latest;

        int next(int n) {
            latest = (latest * 1103515245 + 12345) & 0x7fffffff;
            return n < 1 ? 0 : latest / 65536 % n;
        }
    }

    private static final class Images {
        private static final int PLACES = 2;

        private final int[][] rows = new int[PLACES][Line.WORDS];
        private final int[] seeds = new int[PLACES];
        final boolean[] kept = new boolean[PLACES];

        boolean hasPlace(int i) {
            return i >= 0 && i < PLACES;
        }

        void take(int i, Line line, Draws draws) {
            line.save(rows[i]);
            seeds[i] = draws.latest;
            kept[i] = true;
        }

        void giveBack(int i, Line line, Draws draws) {
            line.load(rows[i]);
            draws.latest = seeds[i];
        }
    }
}
