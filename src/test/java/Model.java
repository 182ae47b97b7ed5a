import java.util.ArrayList;
import java.util.List;

/** The document written down a second time, as plainly as may be and with no care for objects made, to compare with. */
final class Model {
    static final int NONE = -1, UNKNOWN = -1000000001, OUTSIDE = -1000000002, NOT = -1000000003, FULL = -1000000004;

    static final class Section {
        String call = "CLEAR";
        int sum;
        int axles;
        boolean entered;
    }

    static final class Head {
        Section left;
        Section right;
        String way = "";
        int state;
        int count;
        boolean faulty;
        int heard;
        boolean heardFaulty;
        int age;
        boolean sweptOver;
    }

    static final class World {
        final List<Section> sections = new ArrayList<>();
        final List<Head> heads = new ArrayList<>();
        final boolean ring;
        int ticks;

        World(int n, boolean ring) {
            this.ring = ring;
            for (int s = 0; s < n; s++) sections.add(new Section());
            for (int h = 0; h < (ring ? n : n + 1); h++) {
                Head head = new Head();
                if (h > 0) head.left = sections.get(h - 1);
                else if (ring) head.left = sections.get(n - 1);
                if (h < n) head.right = sections.get(h);
                heads.add(head);
            }
        }

        World copy() {
            World to = new World(sections.size(), ring);
            to.ticks = ticks;
            for (int s = 0; s < sections.size(); s++) {
                Section a = sections.get(s), b = to.sections.get(s);
                b.call = a.call;
                b.sum = a.sum;
                b.axles = a.axles;
                b.entered = a.entered;
            }
            for (int h = 0; h < heads.size(); h++) {
                Head a = heads.get(h), b = to.heads.get(h);
                b.way = a.way;
                b.state = a.state;
                b.count = a.count;
                b.faulty = a.faulty;
                b.heard = a.heard;
                b.heardFaulty = a.heardFaulty;
                b.age = a.age;
                b.sweptOver = a.sweptOver;
            }
            return to;
        }

        List<Head> headsOf(Section s) {
            List<Head> its = new ArrayList<>();
            for (Head h : heads) if (h.left == s || h.right == s) its.add(h);
            return its;
        }

        boolean badHead(Section s) {
            for (Head h : headsOf(s)) if (h.heardFaulty || h.age > 3) return true;
            return false;
        }

        boolean trouble(Section s) {
            return s.sum < 0 || badHead(s);
        }

        int set(String call) {
            int set = 0;
            for (int s = 0; s < sections.size(); s++) if (sections.get(s).call.equals(call)) set += 1 << s;
            return set;
        }
    }

    private World world = new World(3, false);
    private final List<World> past = new ArrayList<>();
    private final List<int[]> book = new ArrayList<>();
    private final World[] images = new World[2];
    private final long[] imageSeeds = new long[2];
    private long seed;
    int healed, swept;

    private static final List<String> CALLS = List.of("CLEAR", "TAKEN", "DISTURBED", "SWEEP");

    private boolean noSection(int s) {
        return s < 0 || s >= world.sections.size();
    }

    private boolean noHead(int h) {
        return h < 0 || h >= world.heads.size();
    }

    private boolean noHeads(int set) {
        for (int bit = 0; bit < 32; bit++) if ((set & 1 << bit) != 0 && noHead(bit)) return true;
        return false;
    }

    private void remember() {
        past.add(world.copy());
        if (past.size() > 16) past.remove(0);
    }

    int told(int what) {
        int set = 0;
        switch (what) {
            case 0: return world.sections.size();
            case 1: return world.heads.size();
            case 2: return world.ring ? 1 : 0;
            case 3: return Math.min(world.ticks, 9999);
            case 4: case 5: case 6: case 7: return world.set(CALLS.get(what - 4));
            case 8: case 9:
                for (int s = 0; s < world.sections.size(); s++) {
                    Section section = world.sections.get(s);
                    boolean clear = section.call.equals("CLEAR");
                    if (what == 8 ? clear && section.axles > 0 : !clear && section.axles == 0) set += 1 << s;
                }
                return set;
            case 10:
                for (int h = 0; h < world.heads.size(); h++) if (world.heads.get(h).faulty) set += 1 << h;
                return set;
            case 11:
                for (int h = 0; h < world.heads.size(); h++) if (byHowMuch(world.heads.get(h)) != 0) set += 1 << h;
                return set;
            case 12: return world.sections.stream().mapToInt(s -> s.axles).sum();
            case 13: return world.sections.stream().mapToInt(s -> s.sum).sum() + 1000;
            case 14: return book.size();
            case 15:
                for (int i = 0; i < book.size(); i++) {
                    int s = book.get(i)[0];
                    if (noSection(s) || CALLS.indexOf(world.sections.get(s).call) != book.get(i)[1]) return i;
                }
                return NONE;
            case 16: return past.size();
            default: return OUTSIDE;
        }
    }

    private int byHowMuch(Head head) {
        boolean below = false;
        for (Section s : world.sections) below |= s.sum < 0;
        if (!below) return 0;
        int best = 0;
        for (int d = -9; d <= 9; d++) {
            if (d == 0) continue;
            boolean good = true;
            for (Section s : world.sections) {
                int sum = s.sum;
                if (s == head.right) sum += d;
                if (s == head.left) sum -= d;
                good &= sum >= 0;
            }
            if (good && (best == 0 || Math.abs(d) <= Math.abs(best))) best = d;
        }
        return best;
    }

    int section(int s, int what) {
        if (noSection(s)) return UNKNOWN;
        Section it = world.sections.get(s);
        switch (what) {
            case 0: return CALLS.indexOf(it.call);
            case 1: return it.sum + 1000;
            case 2: return it.axles;
            case 3: return world.trouble(it) ? 1 : 0;
            case 4: return it.call.equals("SWEEP") && it.entered ? 1 : 0;
            case 5:
                int least = 99;
                for (Head h : world.headsOf(it)) {
                    int left = 0;
                    while (h.age + left <= 3) left++;
                    least = Math.min(least, left);
                }
                return least;
            case 6:
                int run = 0;
                int n = world.sections.size();
                for (int k = 0; k < n; k++) {
                    if (s + k >= n && !world.ring) break;
                    if (!world.sections.get((s + k) % n).call.equals("CLEAR")) break;
                    run++;
                }
                return run;
            default: return OUTSIDE;
        }
    }

    int head(int h, int what) {
        if (noHead(h)) return UNKNOWN;
        Head it = world.heads.get(h);
        switch (what) {
            case 0: return it.state;
            case 1:
                int places = 0;
                for (char step : it.way.toCharArray()) places += step == 'r' ? 1 : -1;
                return places + 4;
            case 2: return it.count + 10000;
            case 3: return it.heard;
            case 4: return it.age;
            case 5: return it.faulty ? 1 : 0;
            case 6: return it.heardFaulty ? 1 : 0;
            case 7: return it.sweptOver ? 1 : 0;
            case 8: return it.left == null || it.right == null || it.left == it.right ? NONE : it.left.sum + it.right.sum + 2000;
            case 9: return byHowMuch(it) == 0 ? NONE : byHowMuch(it) + 10;
            default: return OUTSIDE;
        }
    }

    int line(int n, boolean ring) {
        if (n < 1 || n > 6 || ring && n < 2) return OUTSIDE;
        remember();
        world = new World(n, ring);
        book.clear();
        return world.heads.size();
    }

    int feel(int h, int v) {
        if (noHead(h)) return UNKNOWN;
        if (v < 0 || v > 3) return OUTSIDE;
        Head it = world.heads.get(h);
        if (it.faulty || it.state == v) return NOT;
        remember();
        return felt(it, v);
    }

    private static int felt(Head it, int v) {
        if ((it.state ^ v) == 3) {
            it.faulty = true;
            return 3;
        }
        boolean right = "02310".contains("" + it.state + v);
        it.state = v;
        it.way += right ? 'r' : 'l';
        it.way = it.way.replace("rl", "").replace("lr", "");
        if (it.way.equals("rrrr")) {
            it.way = "";
            it.count++;
            return 1;
        }
        if (it.way.equals("llll")) {
            it.way = "";
            it.count--;
            return 2;
        }
        return 0;
    }

    private int refusal(int h, int side, int n) {
        if (noHead(h)) return UNKNOWN;
        if (side != 0 && side != 1 || n < 1 || n > 9) return OUTSIDE;
        return enough(world.heads.get(h), side, n) ? 0 : NOT;
    }

    private static boolean enough(Head it, int side, int n) {
        Section from = side == 0 ? it.left : it.right;
        return from == null || from.axles >= n;
    }

    private static int move(Head it, int side, int n, boolean feels) {
        Section from = side == 0 ? it.left : it.right;
        Section to = side == 0 ? it.right : it.left;
        for (int i = 0; i < n; i++) {
            if (from != null) from.axles--;
            if (to != null) to.axles++;
            if (!feels) continue;
            int[] way = side == 0 ? new int[] {2, 3, 1, 0} : new int[] {1, 3, 2, 0};
            for (int v : way) felt(it, v);
        }
        return to == null ? 0 : to.axles;
    }

    int go(int h, int side, int n) {
        int refusal = refusal(h, side, n);
        if (refusal != 0) return refusal;
        Head it = world.heads.get(h);
        if (it.faulty || it.state != 0) return NOT;
        remember();
        return move(world.heads.get(h), side, n, true);
    }

    int miss(int h, int side, int n) {
        int refusal = refusal(h, side, n);
        if (refusal != 0) return refusal;
        remember();
        return move(world.heads.get(h), side, n, false);
    }

    int tick(int lost) {
        if (noHeads(lost)) return UNKNOWN;
        remember();
        pass(world, lost);
        return world.set("CLEAR");
    }

    private void pass(World w, int lost) {
        w.ticks++;
        for (int h = 0; h < w.heads.size(); h++) {
            Head it = w.heads.get(h);
            if ((lost & 1 << h) != 0) {
                it.age = Math.min(99, it.age + 1);
                continue;
            }
            int told = Math.floorMod(it.count, 16);
            int more = Math.floorMod(told - it.heard, 16);
            if (more > 8) more -= 16;
            if (it.right != null) it.right.sum += more;
            if (it.left != null) it.left.sum -= more;
            it.heard = told;
            it.heardFaulty = it.faulty;
            it.age = 0;
        }
        for (Section s : w.sections) {
            if (w.trouble(s)) {
                s.call = "DISTURBED";
            } else if (s.call.equals("CLEAR") || s.call.equals("TAKEN")) {
                s.call = s.sum > 0 ? "TAKEN" : "CLEAR";
            } else if (s.call.equals("SWEEP")) {
                if (s.sum > 0) s.entered = true;
                if (s.entered && s.sum == 0) {
                    s.call = "CLEAR";
                    swept++;
                }
            }
        }
        for (Head it : w.heads) {
            if (it.left == null || it.right == null || it.left == it.right) continue;
            int joint = it.left.sum + it.right.sum;
            if (it.left.call.equals("DISTURBED") || it.right.call.equals("DISTURBED")) {
                if (joint > 0) it.sweptOver = true;
                if (it.sweptOver && joint == 0 && !w.badHead(it.left) && !w.badHead(it.right)) {
                    for (Section s : List.of(it.left, it.right)) {
                        s.sum = 0;
                        s.call = "CLEAR";
                    }
                    it.sweptOver = false;
                    healed++;
                }
            } else {
                it.sweptOver = false;
            }
        }
    }

    int reset(int s) {
        if (noSection(s)) return UNKNOWN;
        if (!world.sections.get(s).call.equals("DISTURBED")) return NOT;
        remember();
        Section it = world.sections.get(s);
        int was = it.sum;
        it.sum = 0;
        it.call = "SWEEP";
        it.entered = false;
        return was + 1000;
    }

    int repair(int h) {
        if (noHead(h)) return UNKNOWN;
        if (!world.heads.get(h).faulty) return NOT;
        remember();
        Head it = world.heads.get(h);
        boolean was = it.state == 0;
        it.faulty = false;
        it.state = 0;
        it.way = "";
        return was ? 1 : 0;
    }

    private int draw(int n) {
        seed = (seed * 1103515245L + 12345L) % 2147483648L;
        return (int) (seed / 65536 % n);
    }

    int drift(int n) {
        if (n < 1 || n > 16) return OUTSIDE;
        for (int i = 0; i < n; i++) {
            remember();
            Head it = world.heads.get(draw(world.heads.size()));
            int side = draw(2);
            int axles = draw(3) + 1;
            int fourth = draw(16);
            int last = draw(1 << world.heads.size());
            if (enough(it, side, axles)) move(it, side, axles, fourth != 0 && !it.faulty && it.state == 0);
            pass(world, fourth < 4 ? last : 0);
        }
        return world.set("CLEAR");
    }

    int undo(int n) {
        if (n < 1 || n > 16) return OUTSIDE;
        if (n > past.size()) return NOT;
        for (int i = 0; i < n; i++) world = past.remove(past.size() - 1);
        return past.size();
    }

    int would(int lost) {
        if (noHeads(lost)) return UNKNOWN;
        World behind = world.copy();
        pass(behind, lost);
        return behind.set("CLEAR");
    }

    int write(int s, int call) {
        if (noSection(s)) return UNKNOWN;
        if (call < 0 || call > 3) return OUTSIDE;
        if (book.size() == 20) return FULL;
        book.add(new int[] {s, call});
        return book.size();
    }

    int tear() {
        int had = book.size();
        book.clear();
        return had;
    }

    int seed(int v) {
        if (v < 0) return OUTSIDE;
        int was = (int) seed;
        seed = v;
        return was;
    }

    int keep(int i) {
        if (i != 0 && i != 1) return UNKNOWN;
        images[i] = world.copy();
        imageSeeds[i] = seed;
        past.clear();
        return 1;
    }

    int goBack(int i) {
        if (i != 0 && i != 1) return UNKNOWN;
        if (images[i] == null) return NOT;
        world = images[i].copy();
        seed = imageSeeds[i];
        past.clear();
        return 1;
    }
}
