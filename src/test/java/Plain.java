import java.util.ArrayList;
import java.util.Arrays;
import java.util.List;

/**
 * The document once more, in its plainest form and without care for speed, for TwinTest.
 * Findings come from the Java machine's own exceptions over real arrays, as the document's names suggest.
 */
final class Plain {
    private static final long MOST = 1000000000000L;
    private static final int[] C = {65, 63, 60, 56, 52, 39, 33, 25, 16};
    private static final int[] S = {0, 16, 25, 33, 39, 52, 56, 60, 63};
    private static final int NEVER = 1000000;

    private final List<int[]> bones = new ArrayList<>();
    private final List<Integer> turns = new ArrayList<>();
    private final List<List<List<Integer>>> clips = new ArrayList<>();
    private final Object[] sheets = new Object[4];
    private long rootX;
    private long rootY;
    private int locked = -1;
    private int join = 3;
    private List<Integer> keys = new ArrayList<>();
    private List<Integer> path = new ArrayList<>();
    private int cost = -1;
    private int finding;

    Plain() {
        for (int c = 0; c < 6; c++) {
            clips.add(new ArrayList<>());
        }
    }

    // ---- bones

    int bone(int parent, int length, int low, int spread) {
        if (parent < -1 || parent >= bones.size() || length < 1 || length > 100) return -2;
        if (low < 0 || low > 35 || spread < 0 || spread > 35) return -2;
        if (parent >= 0 && rowTo(parent).size() == 5) return -2;
        if (count(1) > 0) return -3;
        if (bones.size() == 10) return -4;
        bones.add(new int[] {parent, length, low, spread});
        turns.add(low);
        return bones.size() - 1;
    }

    private boolean isBone(int b) {
        return b >= 0 && b < bones.size();
    }

    /** From the BONE without PARENT down to b. */
    private List<Integer> rowTo(int b) {
        List<Integer> row = new ArrayList<>();
        for (int k = b; k >= 0; k = bones.get(k)[0]) row.add(0, k);
        return row;
    }

    int about(int b, int what) {
        if (!isBone(b) || what < 0 || what > 4) return -2;
        return what == 4 ? turns.get(b) : bones.get(b)[what];
    }

    private boolean within(int b, int t) {
        for (int n = 0; n <= bones.get(b)[3]; n++) {
            if ((bones.get(b)[2] + n) % 36 == t) return true;
        }
        return false;
    }

    private int intoLimits(int b, int t) {
        if (within(b, t)) return t;
        int low = bones.get(b)[2];
        int last = (low + bones.get(b)[3]) % 36;
        for (int steps = 1; ; steps++) {
            if ((t + steps) % 36 == low || (t + 36 - steps) % 36 == low) return low;
            if ((t + steps) % 36 == last || (t + 36 - steps) % 36 == last) return last;
        }
    }

    private static int shortWay(int from, int to) {
        int way = to - from;
        while (way > 18) way -= 36;
        while (way < -17) way += 36;
        return way;
    }

    private static int round(int t) {
        return ((t % 36) + 36) % 36;
    }

    /** Sets all TURNS; the LOCKED END stays. */
    private void become(List<Integer> pose) {
        long x = locked < 0 ? 0 : endOf(locked, 0);
        long y = locked < 0 ? 0 : endOf(locked, 1);
        for (int b = 0; b < pose.size(); b++) turns.set(b, pose.get(b));
        if (locked >= 0) {
            rootX += x - endOf(locked, 0);
            rootY += y - endOf(locked, 1);
        }
    }

    int turn(int b, int t) {
        if (!isBone(b) || t < 0 || t > 35) return -2;
        if (!within(b, t)) return -3;
        int before = turns.get(b);
        List<Integer> pose = new ArrayList<>(turns);
        pose.set(b, t);
        become(pose);
        return before;
    }

    private static boolean isPlace(long x, long y) {
        return x >= -MOST && x <= MOST && y >= -MOST && y <= MOST;
    }

    int root(long x, long y) {
        if (!isPlace(x, y)) return -2;
        if (locked >= 0) return -3;
        rootX = x;
        rootY = y;
        return 1;
    }

    private static long cosine(int t) {
        return new long[] {C[t % 9], -S[t % 9], -C[t % 9], S[t % 9]}[t / 9];
    }

    private static long sine(int t) {
        return new long[] {S[t % 9], C[t % 9], -S[t % 9], -C[t % 9]}[t / 9];
    }

    /** The product of the numbers along the row, over 65 for each BONE of it, comes to UNITS at last. */
    private long endOf(int b, int what) {
        long x = 1;
        long y = 0;
        long unit = 65L * 65 * 65 * 65 * 65;
        long sum = what == 0 ? rootX : rootY;
        for (int k : rowTo(b)) {
            long c = cosine(turns.get(k));
            long s = sine(turns.get(k));
            long newX = x * c - y * s;
            y = x * s + y * c;
            x = newX;
            unit /= 65;
            sum += bones.get(k)[1] * (what == 0 ? x : y) * unit;
        }
        return sum;
    }

    long end(int b, int what) {
        if (b < -1 || b >= bones.size() || what < 0 || what > 1) return Due.BAD;
        if (b == -1) return what == 0 ? rootX : rootY;
        return endOf(b, what);
    }

    private long farOf(int b, long x, long y) {
        return Math.max(Math.abs(endOf(b, 0) - x), Math.abs(endOf(b, 1) - y));
    }

    long far(int b, long x, long y) {
        return isBone(b) && isPlace(x, y) ? farOf(b, x, y) : Due.BAD;
    }

    int lock(int b) {
        if (b != -1 && !isBone(b)) return -2;
        int before = locked;
        locked = b;
        return before;
    }

    // ---- goals

    long two(int b, long x, long y) {
        if (!isBone(b) || !isPlace(x, y)) return Due.BAD;
        if (locked >= 0) return Due.NOT;
        int parent = bones.get(b)[0];
        long least = Long.MAX_VALUE;
        int[] best = new int[2];
        for (int p = 0; p < (parent < 0 ? 1 : 36); p++) {
            if (parent >= 0 && !within(parent, p)) continue;
            if (parent >= 0) turns.set(parent, p);
            for (int t = 0; t < 36; t++) {
                if (!within(b, t)) continue;
                turns.set(b, t);
                if (farOf(b, x, y) < least) {
                    least = farOf(b, x, y);
                    best = new int[] {p, t};
                }
            }
        }
        if (parent >= 0) turns.set(parent, best[0]);
        turns.set(b, best[1]);
        return least;
    }

    long rounds(int b, long x, long y, int n) {
        if (!isBone(b) || !isPlace(x, y) || n < 1 || n > 20) return Due.BAD;
        if (locked >= 0) return Due.NOT;
        for (int k = 0; k < n; k++) {
            for (int bone = b; bone >= 0; bone = bones.get(bone)[0]) {
                int best = turns.get(bone);
                long least = farOf(b, x, y);
                for (int t = 0; t < 36; t++) {
                    turns.set(bone, within(bone, t) ? t : best);
                    if (farOf(b, x, y) < least) {
                        least = farOf(b, x, y);
                        best = t;
                    }
                }
                turns.set(bone, best);
            }
        }
        return farOf(b, x, y);
    }

    // ---- clips

    private List<Integer> frameOf(int clip, int f) {
        if (clip < 0 || clip > 5 || f < 0 || f >= clips.get(clip).size()) return null;
        return clips.get(clip).get(f);
    }

    int frame(int clip) {
        if (clip < 0 || clip > 5) return -2;
        if (bones.isEmpty()) return -3;
        if (clips.get(clip).size() == 30) return -4;
        clips.get(clip).add(new ArrayList<>(turns));
        return clips.get(clip).size();
    }

    int clear(int clip) {
        if (clip < 0 || clip > 5) return -2;
        int before = clips.get(clip).size();
        clips.get(clip).clear();
        return before;
    }

    int show(int clip, int f) {
        if (frameOf(clip, f) == null) return -2;
        become(frameOf(clip, f));
        return 1;
    }

    int at(int clip, int f, int b) {
        return frameOf(clip, f) == null || !isBone(b) ? -2 : frameOf(clip, f).get(b);
    }

    private List<Integer> blended(List<Integer> first, List<Integer> second, int w, int mask) {
        List<Integer> pose = new ArrayList<>(first);
        for (int b = 0; b < bones.size(); b++) {
            if ((mask & 1 << b) != 0) {
                int way = shortWay(first.get(b), second.get(b));
                int amount = Math.abs(way) * w / 100;
                pose.set(b, intoLimits(b, round(first.get(b) + (way < 0 ? -amount : amount))));
            }
        }
        return pose;
    }

    int blend(int clip, int f, int w, int mask) {
        if (frameOf(clip, f) == null || w < 0 || w > 100 || mask < 0 || mask > 1023) return -2;
        become(blended(turns, frameOf(clip, f), w, mask));
        return 1;
    }

    int add(int clip, int f, int g) {
        List<Integer> p = frameOf(clip, f);
        List<Integer> q = frameOf(clip, g);
        if (p == null || q == null) return -2;
        int[] wanted = new int[bones.size()];
        for (int b = 0; b < wanted.length; b++) wanted[b] = turns.get(b) + shortWay(q.get(b), p.get(b));
        return becomeWithin(wanted);
    }

    private int becomeWithin(int[] wanted) {
        int outside = 0;
        List<Integer> pose = new ArrayList<>();
        for (int b = 0; b < wanted.length; b++) {
            outside += within(b, round(wanted[b])) ? 0 : 1;
            pose.add(intoLimits(b, round(wanted[b])));
        }
        become(pose);
        return outside;
    }

    private static int likeness(List<Integer> p, List<Integer> q) {
        int sum = 0;
        for (int b = 0; b < p.size(); b++) sum += Math.abs(shortWay(p.get(b), q.get(b)));
        return sum;
    }

    int like(int clip, int f, int other, int g) {
        if (frameOf(clip, f) == null || frameOf(other, g) == null) return -2;
        return likeness(frameOf(clip, f), frameOf(other, g));
    }

    private boolean fits(List<List<Integer>> clip, int i, int j, int m) {
        for (int k = i + 1; k < j; k++) {
            List<Integer> told = blended(clip.get(i), clip.get(j), 100 * (k - i) / (j - i), 1023);
            for (int b = 0; b < told.size(); b++) {
                if (Math.abs(shortWay(told.get(b), clip.get(k).get(b))) > m) return false;
            }
        }
        return true;
    }

    int pack(int clip, int m) {
        if (clip < 0 || clip > 5 || m < 0 || m > 18) return -2;
        List<List<Integer>> row = clips.get(clip);
        keys = new ArrayList<>();
        if (row.isEmpty()) return 0;
        int i = 0;
        keys.add(0);
        while (i < row.size() - 1) {
            int last = i;
            for (int j = i + 1; j < row.size(); j++) {
                if (fits(row, i, j, m)) last = j;
            }
            i = last;
            keys.add(i);
        }
        return keys.size();
    }

    int key(int k) {
        return k < 0 || k >= keys.size() ? -2 : keys.get(k);
    }

    int thin(int clip, int m) {
        if (pack(clip, m) == -2) return -2;
        List<List<Integer>> left = new ArrayList<>();
        for (int k : keys) left.add(clips.get(clip).get(k));
        int went = clips.get(clip).size() - left.size();
        clips.set(clip, left);
        return went;
    }

    // ---- the graph

    int join(int j) {
        if (j < 0 || j > 100) return -2;
        int before = join;
        join = j;
        return before;
    }

    /** The COST from each FRAME to each, NEVER where one can't go; 180 numbers, FRAMES that are not there too. */
    private int[][] ways() {
        int[][] ways = new int[180][180];
        for (int a = 0; a < 180; a++) {
            Arrays.fill(ways[a], NEVER);
            List<Integer> from = frameOf(a / 30, a % 30);
            for (int b = 0; b < 180 && from != null; b++) {
                List<Integer> to = frameOf(b / 30, b % 30);
                if (to == null || a == b) continue;
                if (likeness(from, to) <= join) ways[a][b] = 2 + likeness(from, to);
                if (a / 30 == b / 30 && b == a + 1) ways[a][b] = 1;
            }
        }
        return ways;
    }

    /** Dead ends are pruned, again and again. */
    private boolean[] lives() {
        int[][] ways = ways();
        boolean[] alive = new boolean[180];
        for (int a = 0; a < 180; a++) alive[a] = frameOf(a / 30, a % 30) != null;
        for (boolean pruned = true; pruned; ) {
            pruned = false;
            for (int a = 0; a < 180; a++) {
                boolean on = false;
                for (int b = 0; b < 180; b++) on |= alive[b] && ways[a][b] < NEVER;
                if (alive[a] && !on) {
                    alive[a] = false;
                    pruned = true;
                }
            }
        }
        return alive;
    }

    int live() {
        int sum = 0;
        for (boolean alive : lives()) sum += alive ? 1 : 0;
        return sum;
    }

    int isLive(int clip, int f) {
        return frameOf(clip, f) == null ? -2 : lives()[30 * clip + f] ? 1 : 0;
    }

    int walk(int clip, int f, int other, int g) {
        if (frameOf(clip, f) == null || frameOf(other, g) == null) return -2;
        int[][] ways = ways();
        int goal = 30 * other + g;
        int[] left = new int[180];
        Arrays.fill(left, NEVER);
        left[goal] = 0;
        for (boolean better = true; better; ) {
            better = false;
            for (int a = 0; a < 180; a++) {
                for (int b = 0; b < 180; b++) {
                    if (ways[a][b] + left[b] < left[a]) {
                        left[a] = ways[a][b] + left[b];
                        better = true;
                    }
                }
            }
        }
        path = new ArrayList<>();
        int a = 30 * clip + f;
        cost = left[a] < NEVER ? left[a] : -1;
        if (cost < 0) return -1;
        path.add(a);
        while (a != goal) {
            int next = 0;
            while (ways[a][next] + left[next] != left[a]) next++;
            a = next;
            path.add(a);
        }
        return cost;
    }

    int step(int k) {
        return k < 0 || k >= path.size() ? -2 : path.get(k);
    }

    // ---- sheets

    private int found(RuntimeException e) {
        if (e instanceof NullPointerException) finding = 1;
        else if (e instanceof IndexOutOfBoundsException) finding = 2;
        else if (e instanceof ClassCastException) finding = 3;
        else if (e instanceof ArrayStoreException) finding = 4;
        else if (e instanceof NegativeArraySizeException) finding = 5;
        else throw e;
        return -10 - finding;
    }

    private static int sizeOf(Object row) {
        return java.lang.reflect.Array.getLength(row);
    }

    int sheet(int s, int form, int n) {
        if (s < 0 || s > 3 || form < 0 || form > 2 || n > 60) return -2;
        try {
            sheets[s] = form == 0 ? new byte[n] : form == 1 ? new short[n] : new int[n];
            return n;
        } catch (RuntimeException e) {
            return found(e);
        }
    }

    int lose(int s) {
        if (s < 0 || s > 3) return -2;
        try {
            int n = sizeOf(sheets[s]);
            sheets[s] = null;
            return n;
        } catch (RuntimeException e) {
            return found(e);
        }
    }

    int put(int s, int form, int i, int v) {
        if (s < 0 || s > 3 || form < 0 || form > 2) return -2;
        try {
            switch (form) {
                case 0: ((byte[]) sheets[s])[i] = (byte) v; break;
                case 1: ((short[]) sheets[s])[i] = (short) v; break;
                default: ((int[]) sheets[s])[i] = v; break;
            }
            return 1;
        } catch (RuntimeException e) {
            return found(e);
        }
    }

    int get(int s, int form, int i) {
        if (s < 0 || s > 3 || form < 0 || form > 2) return Integer.MIN_VALUE;
        try {
            switch (form) {
                case 0: return ((byte[]) sheets[s])[i];
                case 1: return ((short[]) sheets[s])[i];
                default: return ((int[]) sheets[s])[i];
            }
        } catch (RuntimeException e) {
            found(e);
            return Integer.MIN_VALUE;
        }
    }

    @SuppressWarnings("SuspiciousSystemArraycopy")
    int copy(int s, int i, int t, int j, int n) {
        if (s < 0 || s > 3 || t < 0 || t > 3) return -2;
        try {
            System.arraycopy(sheets[s], i, sheets[t], j, n);
            return 1;
        } catch (RuntimeException e) {
            return found(e);
        }
    }

    private boolean hasItems(int s, int i) {
        return i >= 0 && (long) i + bones.size() <= sizeOf(sheets[s]);
    }

    int pose(int s, int i) {
        if (s < 0 || s > 3) return -2;
        if (sheets[s] == null) return found(new NullPointerException());
        if (!hasItems(s, i)) return found(new IndexOutOfBoundsException());
        int[] wanted = new int[bones.size()];
        for (int b = 0; b < wanted.length; b++) {
            wanted[b] = ((Number) java.lang.reflect.Array.get(sheets[s], i + b)).intValue();
        }
        return becomeWithin(wanted);
    }

    int write(int s, int i) {
        if (s < 0 || s > 3) return -2;
        if (sheets[s] == null) return found(new NullPointerException());
        if (!hasItems(s, i)) return found(new IndexOutOfBoundsException());
        int form = sheets[s] instanceof byte[] ? 0 : sheets[s] instanceof short[] ? 1 : 2;
        for (int b = 0; b < bones.size(); b++) put(s, form, i + b, turns.get(b));
        return bones.size();
    }

    int count(int what) {
        int frames = 0;
        for (List<List<Integer>> clip : clips) frames += clip.size();
        int[] counts = {bones.size(), frames, locked, join, keys.size(), cost, finding};
        return what < 0 || what > 6 ? -2 : counts[what];
    }

    long digest() {
        List<Long> parts = new ArrayList<>();
        for (int what = 0; what < 4; what++) parts.add((long) count(what));
        for (int b = 0; b < bones.size(); b++) {
            parts.add((long) turns.get(b));
            parts.add(endOf(b, 0));
            parts.add(endOf(b, 1));
        }
        for (List<List<Integer>> clip : clips) {
            for (List<Integer> pose : clip) {
                for (int t : pose) parts.add((long) t);
            }
        }
        long h = 17;
        for (long part : parts) h = 31 * h + part;
        return h;
    }
}
