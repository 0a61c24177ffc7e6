import java.util.Arrays;

/**
 * Bones and steps: a tree of bones posed by exact turns, goals, clips, walks over clips, and sheets.
 * The document's words stand in capitals in the comments.
 */
public final class BoneSteps {
    public static final int NONE = -1, BAD = -2, NOT = -3, FULL = -4;

    private static final int NULL = 1, INDEX = 2, CAST = 3, STORE = 4, SIZE = 5;
    private static final int FINE = 0;
    private static final int BEFORE_FINDINGS = -10;

    private static final int ROUND = 36;
    private static final int HALF_ROUND = 18;
    private static final int QUARTER_ROUND = 9;
    private static final int PART = 65;
    private static final long WHOLE = 1160290625L;
    private static final long FARTHEST = 1000000000000L;
    private static final int LEAST_INT = 1 << 31;
    private static final int MOST_INT = ~LEAST_INT;
    private static final long LEAST_LONG = 1L << 63;
    private static final long MOST_LONG = ~LEAST_LONG;

    private static final int MOST_BONES = 10;
    private static final int LONGEST_ROW = 5;
    private static final int LONGEST_BONE = 100;
    private static final int ALL_BONES = 1023;
    private static final int MOST_ROUNDS = 20;
    private static final int MOST_CLIPS = 6;
    private static final int MOST_FRAMES = 30;
    private static final int SLOTS = MOST_CLIPS * MOST_FRAMES;
    private static final int MOST_JOIN = 100;
    private static final int MOST_SHEETS = 4;
    private static final int MOST_ITEMS = 60;

    private final Skeleton skeleton = new Skeleton();
    private final Clips clips = new Clips();
    private final Packing packing = new Packing();
    private final Graph graph = new Graph();
    private final Sheet[] sheets = new Sheet[MOST_SHEETS];
    private int finding = FINE;

    public BoneSteps() {
        for (int s = 0; s < MOST_SHEETS; s++) {
            sheets[s] = new Sheet();
        }
    }

    // ---- bones

    public int bone(int parent, int length, int low, int spread) {
        Bone above = skeleton.find(parent);
        if (above == null && parent != NONE) {
            return BAD;
        }
        if (!isIn(length, 1, LONGEST_BONE) || !isTurn(low) || !isTurn(spread)) {
            return BAD;
        }
        if (above != null && above.depth >= LONGEST_ROW) {
            return BAD;
        }
        if (clips.total() > 0) {
            return NOT;
        }
        if (skeleton.size >= MOST_BONES) {
            return FULL;
        }
        return skeleton.grow(new Bone(above, parent, length, low, spread));
    }

    public int about(int b, int what) {
        Bone bone = skeleton.find(b);
        if (bone == null) {
            return BAD;
        }
        switch (what) {
            case 0: return bone.parentNumber;
            case 1: return bone.length;
            case 2: return bone.low;
            case 3: return bone.spread;
            case 4: return bone.turn;
            default: return BAD;
        }
    }

    public int turn(int b, int t) {
        Bone bone = skeleton.find(b);
        if (bone == null || !isTurn(t)) {
            return BAD;
        }
        if (!bone.allows(t)) {
            return NOT;
        }
        int before = bone.turn;
        bone.turn = t;
        skeleton.settle();
        return before;
    }

    public int root(long x, long y) {
        if (!isPlace(x, y)) {
            return BAD;
        }
        if (skeleton.locked != NONE) {
            return NOT;
        }
        skeleton.moveRoot(x, y);
        return 1;
    }

    public long end(int b, int what) {
        Bone bone = skeleton.find(b);
        if ((bone == null && b != NONE) || !isIn(what, 0, 1)) {
            return asLong(BAD);
        }
        if (bone == null) {
            return what == 0 ? skeleton.rootX : skeleton.rootY;
        }
        return what == 0 ? bone.endX : bone.endY;
    }

    public long far(int b, long x, long y) {
        Bone bone = skeleton.find(b);
        if (bone == null || !isPlace(x, y)) {
            return asLong(BAD);
        }
        return bone.farFrom(x, y);
    }

    public int lock(int b) {
        if (b != NONE && skeleton.find(b) == null) {
            return BAD;
        }
        int before = skeleton.locked;
        skeleton.locked = b;
        return before;
    }

    // ---- goals

    public long two(int b, long x, long y) {
        Bone tip = skeleton.find(b);
        if (tip == null || !isPlace(x, y)) {
            return asLong(BAD);
        }
        if (skeleton.locked != NONE) {
            return asLong(NOT);
        }
        skeleton.reachByTwo(tip, x, y);
        return tip.farFrom(x, y);
    }

    public long rounds(int b, long x, long y, int n) {
        Bone tip = skeleton.find(b);
        if (tip == null || !isPlace(x, y) || !isIn(n, 1, MOST_ROUNDS)) {
            return asLong(BAD);
        }
        if (skeleton.locked != NONE) {
            return asLong(NOT);
        }
        skeleton.reachByRounds(tip, x, y, n);
        return tip.farFrom(x, y);
    }

    // ---- clips

    public int frame(int clip) {
        Clip row = clips.find(clip);
        if (row == null) {
            return BAD;
        }
        if (skeleton.size == 0) {
            return NOT;
        }
        if (row.size >= MOST_FRAMES) {
            return FULL;
        }
        skeleton.tellTurns(row.frames[row.size]);
        row.size++;
        clips.width = skeleton.size;
        return row.size;
    }

    public int clear(int clip) {
        Clip row = clips.find(clip);
        if (row == null) {
            return BAD;
        }
        int before = row.size;
        row.size = 0;
        return before;
    }

    public int show(int clip, int f) {
        int[] frame = clips.findFrame(clip, f);
        if (frame == null) {
            return BAD;
        }
        skeleton.takeTurns(frame);
        return 1;
    }

    public int at(int clip, int f, int b) {
        int[] frame = clips.findFrame(clip, f);
        if (frame == null || !isIn(b, 0, skeleton.size - 1)) {
            return BAD;
        }
        return frame[b];
    }

    public int blend(int clip, int f, int w, int mask) {
        int[] frame = clips.findFrame(clip, f);
        if (frame == null || !isIn(w, 0, 100) || !isIn(mask, 0, ALL_BONES)) {
            return BAD;
        }
        skeleton.blendWith(frame, w, mask);
        return 1;
    }

    public int add(int clip, int f, int g) {
        int[] more = clips.findFrame(clip, f);
        int[] less = clips.findFrame(clip, g);
        if (more == null || less == null) {
            return BAD;
        }
        return skeleton.addDifference(more, less);
    }

    public int like(int clip, int f, int other, int g) {
        int[] first = clips.findFrame(clip, f);
        int[] second = clips.findFrame(other, g);
        if (first == null || second == null) {
            return BAD;
        }
        return clips.likeness(first, second, MOST_INT);
    }

    public int pack(int clip, int m) {
        Clip row = clips.find(clip);
        if (row == null || !isIn(m, 0, HALF_ROUND)) {
            return BAD;
        }
        packing.findKeys(skeleton, row, m);
        return packing.size;
    }

    public int key(int k) {
        return isIn(k, 0, packing.size - 1) ? packing.keys[k] : BAD;
    }

    public int thin(int clip, int m) {
        Clip row = clips.find(clip);
        if (row == null || !isIn(m, 0, HALF_ROUND)) {
            return BAD;
        }
        int before = row.size;
        packing.findKeys(skeleton, row, m);
        packing.keepKeys(row);
        return before - row.size;
    }

    // ---- the graph

    public int join(int j) {
        if (!isIn(j, 0, MOST_JOIN)) {
            return BAD;
        }
        int before = graph.join;
        graph.join = j;
        return before;
    }

    public int live() {
        int sum = 0;
        for (int c = 0; c < MOST_CLIPS; c++) {
            sum += graph.lastJoined(clips, c) + 1;
        }
        return sum;
    }

    public int isLive(int clip, int f) {
        if (clips.findFrame(clip, f) == null) {
            return BAD;
        }
        return f <= graph.lastJoined(clips, clip) ? 1 : 0;
    }

    public int walk(int clip, int f, int other, int g) {
        if (clips.findFrame(clip, f) == null || clips.findFrame(other, g) == null) {
            return BAD;
        }
        graph.findWalk(clips, MOST_FRAMES * clip + f, MOST_FRAMES * other + g);
        return graph.walkCost;
    }

    public int step(int k) {
        return isIn(k, 0, graph.pathSize - 1) ? graph.path[k] : BAD;
    }

    // ---- sheets

    public int sheet(int s, int form, int n) {
        Sheet row = findSheet(s);
        if (row == null || !isForm(form) || n > MOST_ITEMS) {
            return BAD;
        }
        if (n < 0) {
            return found(SIZE);
        }
        row.begin(form, n);
        return n;
    }

    public int lose(int s) {
        Sheet row = findSheet(s);
        if (row == null) {
            return BAD;
        }
        if (row.lost) {
            return found(NULL);
        }
        row.lost = true;
        return row.size;
    }

    public int put(int s, int form, int i, int v) {
        Sheet row = findSheet(s);
        if (row == null || !isForm(form)) {
            return BAD;
        }
        int wrong = row.wrongItem(form, i);
        if (wrong != FINE) {
            return found(wrong);
        }
        row.store(i, v);
        return 1;
    }

    public int get(int s, int form, int i) {
        Sheet row = findSheet(s);
        if (row == null || !isForm(form)) {
            return LEAST_INT;
        }
        int wrong = row.wrongItem(form, i);
        if (wrong != FINE) {
            finding = wrong;
            return LEAST_INT;
        }
        return row.items[i];
    }

    public int copy(int s, int i, int t, int j, int n) {
        Sheet from = findSheet(s);
        Sheet to = findSheet(t);
        if (from == null || to == null) {
            return BAD;
        }
        if (from.lost || to.lost) {
            return found(NULL);
        }
        if (from.form != to.form) {
            return found(STORE);
        }
        if (!from.holds(i, n) || !to.holds(j, n)) {
            return found(INDEX);
        }
        System.arraycopy(from.items, i, to.items, j, n);
        return 1;
    }

    public int pose(int s, int i) {
        Sheet row = findSheet(s);
        if (row == null) {
            return BAD;
        }
        int wrong = row.wrongPose(i, skeleton.size);
        if (wrong != FINE) {
            return found(wrong);
        }
        return skeleton.takeItems(row.items, i);
    }

    public int write(int s, int i) {
        Sheet row = findSheet(s);
        if (row == null) {
            return BAD;
        }
        int wrong = row.wrongPose(i, skeleton.size);
        if (wrong != FINE) {
            return found(wrong);
        }
        for (int b = 0; b < skeleton.size; b++) {
            row.store(i + b, skeleton.bones[b].turn);
        }
        return skeleton.size;
    }

    public int count(int what) {
        switch (what) {
            case 0: return skeleton.size;
            case 1: return clips.total();
            case 2: return skeleton.locked;
            case 3: return graph.join;
            case 4: return packing.size;
            case 5: return graph.walkCost;
            case 6: return finding;
            default: return BAD;
        }
    }

    public long digest() {
        long h = 17;
        for (int what = 0; what <= 3; what++) {
            h = 31 * h + count(what);
        }
        return clips.digestOn(skeleton.digestOn(h));
    }

    // ---- what the calls share

    private static boolean isIn(long value, long least, long most) {
        return value >= least && value <= most;
    }

    private static boolean isTurn(int t) {
        return isIn(t, 0, ROUND - 1);
    }

    private static boolean isPlace(long x, long y) {
        return isIn(x, -FARTHEST, FARTHEST) && isIn(y, -FARTHEST, FARTHEST);
    }

    private static boolean isForm(int form) {
        return isIn(form, Sheet.BYTES, Sheet.INTS);
    }

    /** A refusal as a long must not look like a place or a way, so it stands at the least long. */
    private static long asLong(int refusal) {
        return LEAST_LONG - refusal;
    }

    private int found(int number) {
        finding = number;
        return BEFORE_FINDINGS - number;
    }

    private Sheet findSheet(int s) {
        return isIn(s, 0, MOST_SHEETS - 1) ? sheets[s] : null;
    }

    /** Numbers about TURNS alone. */
    private static final class Turns {
        private static final int[] COSINES = {
            65, 63, 60, 56, 52, 39, 33, 25, 16,
            0, -16, -25, -33, -39, -52, -56, -60, -63,
            -65, -63, -60, -56, -52, -39, -33, -25, -16,
            0, 16, 25, 33, 39, 52, 56, 60, 63
        };

        static int normal(int t) {
            return Math.floorMod(t, ROUND);
        }

        static int cosine(int t) {
            return COSINES[Math.floorMod(t, ROUND)];
        }

        static int sine(int t) {
            return COSINES[Math.floorMod(t - QUARTER_ROUND, ROUND)];
        }

        static int shortWay(int from, int to) {
            int way = to - from;
            return way > HALF_ROUND ? way - ROUND : way <= -HALF_ROUND ? way + ROUND : way;
        }

        /** The amount of THE SHORT WAY. */
        static int distance(int from, int to) {
            int way = from < to ? to - from : from - to;
            return way > HALF_ROUND ? ROUND - way : way;
        }
    }

    /** A BONE with its TURN and the place that it has by the POSE. */
    private static final class Bone {
        final Bone parent;
        final int parentNumber;
        final int depth;
        final int length;
        final int low;
        final int spread;
        final int last;
        int turn;
        long startX;
        long startY;
        long directionX;
        long directionY;
        long endX;
        long endY;

        Bone(Bone parent, int parentNumber, int length, int low, int spread) {
            this.parent = parent;
            this.parentNumber = parentNumber;
            this.depth = parent == null ? 1 : parent.depth + 1;
            this.length = length;
            this.low = low;
            this.spread = spread;
            this.last = (low + spread) % ROUND;
            this.turn = low;
        }

        boolean allows(int t) {
            int past = t < low ? t + ROUND - low : t - low;
            return past <= spread;
        }

        /** The least number within LIMITS: they hold 0 where they go round past 35. */
        int leastTurn() {
            return last < low ? 0 : low;
        }

        int intoLimits(int t) {
            if (allows(t)) {
                return t;
            }
            return Turns.distance(t, low) <= Turns.distance(t, last) ? low : last;
        }

        int blended(int first, int second, int w) {
            return intoLimits(Turns.normal(first + Turns.shortWay(first, second) * w / 100));
        }

        /** Takes a TURN INTO LIMITS: 1 if it was not within, else 0. */
        int takeTurn(int t) {
            turn = intoLimits(t);
            return turn == t ? 0 : 1;
        }

        /** The PARENT must have its place already; the division by 65 leaves no rest in a row of 5. */
        void place(long rootX, long rootY) {
            startX = parent == null ? rootX : parent.endX;
            startY = parent == null ? rootY : parent.endY;
            long fromX = parent == null ? WHOLE : parent.directionX;
            long fromY = parent == null ? 0 : parent.directionY;
            int c = Turns.cosine(turn);
            int s = Turns.sine(turn);
            directionX = (fromX * c - fromY * s) / PART;
            directionY = (fromX * s + fromY * c) / PART;
            endX = startX + length * directionX;
            endY = startY + length * directionY;
        }

        long farFrom(long x, long y) {
            return Math.max(Math.abs(endX - x), Math.abs(endY - y));
        }

        /**
         * The TURN by which THE END of tip, a BONE below this one or this one, is least FAR from a place.
         * The favoured TURN wins where it is as good, then the least number.
         */
        int nearestTurn(Bone tip, long x, long y, int favoured) {
            long wayX = tip.endX - startX;
            long wayY = tip.endY - startY;
            int c = Turns.cosine(turn);
            int s = Turns.sine(turn);
            // The way from here to the tip turns as one piece, so it is turned back to TURN 0 only once.
            long straightX = (wayX * c + wayY * s) / PART;
            long straightY = (wayY * c - wayX * s) / PART;
            int best = favoured;
            long least = farTurned(straightX, straightY, x, y, favoured);
            for (int t = 0; t < ROUND; t++) {
                if (allows(t)) {
                    long far = farTurned(straightX, straightY, x, y, t);
                    if (far < least) {
                        least = far;
                        best = t;
                    }
                }
            }
            return best;
        }

        private long farTurned(long straightX, long straightY, long x, long y, int t) {
            int c = Turns.cosine(t);
            int s = Turns.sine(t);
            long turnedX = startX + (straightX * c - straightY * s) / PART;
            long turnedY = startY + (straightX * s + straightY * c) / PART;
            return Math.max(Math.abs(turnedX - x), Math.abs(turnedY - y));
        }
    }

    /** All BONES, THE ROOT and which BONE is LOCKED. */
    private static final class Skeleton {
        final Bone[] bones = new Bone[MOST_BONES];
        int size;
        int locked = NONE;
        long rootX;
        long rootY;

        Bone find(int b) {
            return isIn(b, 0, size - 1) ? bones[b] : null;
        }

        int grow(Bone bone) {
            bones[size] = bone;
            bone.place(rootX, rootY);
            size++;
            return size - 1;
        }

        void moveRoot(long x, long y) {
            rootX = x;
            rootY = y;
            place();
        }

        /** In the order of numbers a PARENT comes before its children. */
        private void place() {
            for (int b = 0; b < size; b++) {
                bones[b].place(rootX, rootY);
            }
        }

        /** Must follow every change of the POSE: where a BONE is LOCKED, THE ROOT gives way. */
        void settle() {
            Bone held = find(locked);
            if (held == null) {
                place();
                return;
            }
            long x = held.endX;
            long y = held.endY;
            place();
            rootX += x - held.endX;
            rootY += y - held.endY;
            place();
        }

        void tellTurns(int[] frame) {
            for (int b = 0; b < size; b++) {
                frame[b] = bones[b].turn;
            }
        }

        void takeTurns(int[] frame) {
            for (int b = 0; b < size; b++) {
                bones[b].turn = frame[b];
            }
            settle();
        }

        void blendWith(int[] frame, int w, int mask) {
            for (int b = 0; b < size; b++) {
                if ((mask >> b & 1) == 1) {
                    bones[b].turn = bones[b].blended(bones[b].turn, frame[b], w);
                }
            }
            settle();
        }

        int addDifference(int[] more, int[] less) {
            int outside = 0;
            for (int b = 0; b < size; b++) {
                int way = Turns.shortWay(less[b], more[b]);
                outside += bones[b].takeTurn(Turns.normal(bones[b].turn + way));
            }
            settle();
            return outside;
        }

        /** The items from i on must be as many as the BONES. */
        int takeItems(int[] items, int i) {
            int outside = 0;
            for (int b = 0; b < size; b++) {
                outside += bones[b].takeTurn(Turns.normal(items[i + b]));
            }
            settle();
            return outside;
        }

        void reachByTwo(Bone tip, long x, long y) {
            Bone parent = tip.parent;
            if (parent == null) {
                tip.turn = tip.nearestTurn(tip, x, y, tip.leastTurn());
                place();
                return;
            }
            int bestParent = parent.turn;
            int bestTip = tip.turn;
            long least = MOST_LONG;
            for (int t = 0; t < ROUND; t++) {
                if (parent.allows(t)) {
                    parent.turn = t;
                    place();
                    tip.turn = tip.nearestTurn(tip, x, y, tip.leastTurn());
                    place();
                    if (tip.farFrom(x, y) < least) {
                        least = tip.farFrom(x, y);
                        bestParent = t;
                        bestTip = tip.turn;
                    }
                }
            }
            parent.turn = bestParent;
            tip.turn = bestTip;
            place();
        }

        /** A round that changes nothing is followed by none that does. */
        void reachByRounds(Bone tip, long x, long y, int n) {
            boolean changed = true;
            for (int k = 0; k < n && changed; k++) {
                changed = reachByRound(tip, x, y);
            }
        }

        private boolean reachByRound(Bone tip, long x, long y) {
            boolean changed = false;
            for (Bone bone = tip; bone != null; bone = bone.parent) {
                int t = bone.nearestTurn(tip, x, y, bone.turn);
                if (t != bone.turn) {
                    bone.turn = t;
                    place();
                    changed = true;
                }
            }
            return changed;
        }

        long digestOn(long before) {
            long h = before;
            for (int b = 0; b < size; b++) {
                h = 31 * h + bones[b].turn;
                h = 31 * h + bones[b].endX;
                h = 31 * h + bones[b].endY;
            }
            return h;
        }
    }

    /** A row of FRAMES: of each a row of TURNS, made once and used again. */
    private static final class Clip {
        final int[][] frames = new int[MOST_FRAMES][MOST_BONES];
        int size;
    }

    /** All CLIPS. */
    private static final class Clips {
        private final Clip[] clips = new Clip[MOST_CLIPS];
        /** How many BONES the FRAMES have: all alike, as no BONE comes while there are FRAMES. */
        int width;

        Clips() {
            for (int c = 0; c < MOST_CLIPS; c++) {
                clips[c] = new Clip();
            }
        }

        Clip find(int clip) {
            return isIn(clip, 0, MOST_CLIPS - 1) ? clips[clip] : null;
        }

        int[] findFrame(int clip, int f) {
            if (clip < 0 || clip >= MOST_CLIPS || f < 0 || f >= clips[clip].size) {
                return null;
            }
            return clips[clip].frames[f];
        }

        int[] findSlot(int slot) {
            return findFrame(slot / MOST_FRAMES, slot % MOST_FRAMES);
        }

        int total() {
            int sum = 0;
            for (int c = 0; c < MOST_CLIPS; c++) {
                sum += clips[c].size;
            }
            return sum;
        }

        /** LIKENESS, or some number above enough as soon as it is known to be above. */
        int likeness(int[] first, int[] second, int enough) {
            int sum = 0;
            for (int b = 0; b < width && sum <= enough; b++) {
                sum += Turns.distance(first[b], second[b]);
            }
            return sum;
        }

        long digestOn(long before) {
            long h = before;
            for (int c = 0; c < MOST_CLIPS; c++) {
                for (int f = 0; f < clips[c].size; f++) {
                    for (int b = 0; b < width; b++) {
                        h = 31 * h + clips[c].frames[f][b];
                    }
                }
            }
            return h;
        }
    }

    /** KEYS of the latest PACKING. */
    private static final class Packing {
        final int[] keys = new int[MOST_FRAMES];
        int size;

        void findKeys(Skeleton skeleton, Clip clip, int m) {
            size = 0;
            int latest = NONE;
            for (int n = 0; n < MOST_FRAMES && latest < clip.size - 1; n++) {
                latest = latest == NONE ? 0 : nextKey(skeleton, clip, latest, m);
                keys[n] = latest;
                size = n + 1;
            }
        }

        private static int nextKey(Skeleton skeleton, Clip clip, int i, int m) {
            for (int j = clip.size - 1; j > i + 1; j--) {
                if (spans(skeleton, clip, i, j, m)) {
                    return j;
                }
            }
            return i + 1;
        }

        private static boolean spans(Skeleton skeleton, Clip clip, int i, int j, int m) {
            for (int k = i + 1; k < j; k++) {
                int w = 100 * (k - i) / (j - i);
                for (int b = 0; b < skeleton.size; b++) {
                    int told = skeleton.bones[b].blended(clip.frames[i][b], clip.frames[j][b], w);
                    if (Turns.distance(told, clip.frames[k][b]) > m) {
                        return false;
                    }
                }
            }
            return true;
        }

        /** A KEY never stands before its number in the row of KEYS, so none is lost by moving it there. */
        void keepKeys(Clip clip) {
            for (int k = 0; k < size; k++) {
                System.arraycopy(clip.frames[keys[k]], 0, clip.frames[k], 0, MOST_BONES);
            }
            clip.size = size;
        }
    }

    /** THE GRAPH and the latest WALK; a slot is 30 times a CLIP and the number of a FRAME in it. */
    private static final class Graph {
        private static final int UNREACHED = MOST_INT;

        int join = 3;
        int walkCost = NONE;
        final int[] path = new int[SLOTS];
        int pathSize;
        private final int[] slots = new int[SLOTS];
        private int slotCount;
        private final int[] costs = new int[SLOTS];
        private final int[] followers = new int[SLOTS];
        private final boolean[] settled = new boolean[SLOTS];

        /**
         * The last FRAME of a CLIP that is like enough another one; NONE.
         * One can go to and fro between two such FRAMES, so just they and those before them are LIVE.
         */
        int lastJoined(Clips clips, int clip) {
            for (int f = MOST_FRAMES - 1; f >= 0; f--) {
                int[] frame = clips.findFrame(clip, f);
                if (frame != null && isJoined(clips, frame, MOST_FRAMES * clip + f)) {
                    return f;
                }
            }
            return NONE;
        }

        private boolean isJoined(Clips clips, int[] frame, int slot) {
            for (int other = 0; other < SLOTS; other++) {
                int[] second = clips.findSlot(other);
                if (second != null && other != slot && clips.likeness(frame, second, join) <= join) {
                    return true;
                }
            }
            return false;
        }

        /** Goes back from the goal, so that each FRAME on the way learns the least one to go on to. */
        void findWalk(Clips clips, int from, int goal) {
            begin(clips, goal);
            for (int n = 0; n < slotCount && !settled[from]; n++) {
                int nearest = nearestOpen();
                if (nearest == NONE) {
                    break;
                }
                settled[nearest] = true;
                reachFrom(clips, nearest);
            }
            walkCost = settled[from] ? costs[from] : NONE;
            keepPath(from, goal);
        }

        private void begin(Clips clips, int goal) {
            slotCount = 0;
            for (int slot = 0; slot < SLOTS; slot++) {
                settled[slot] = false;
                if (clips.findSlot(slot) != null) {
                    slots[slotCount] = slot;
                    slotCount++;
                }
            }
            Arrays.fill(costs, UNREACHED);
            Arrays.fill(followers, NONE);
            costs[goal] = 0;
        }

        private int nearestOpen() {
            int nearest = NONE;
            int least = UNREACHED;
            for (int n = 0; n < slotCount; n++) {
                int slot = slots[n];
                if (!settled[slot] && costs[slot] < least) {
                    least = costs[slot];
                    nearest = slot;
                }
            }
            return nearest;
        }

        /** Every COST is above 0: all FRAMES that a least walk can go on to are settled before its own. */
        private void reachFrom(Clips clips, int reached) {
            for (int n = 0; n < slotCount; n++) {
                int slot = slots[n];
                int way = settled[slot] ? NONE : wayCost(clips, slot, reached);
                if (way != NONE) {
                    int cost = costs[reached] + way;
                    if (cost < costs[slot] || (cost == costs[slot] && reached < followers[slot])) {
                        costs[slot] = cost;
                        followers[slot] = reached;
                    }
                }
            }
        }

        private int wayCost(Clips clips, int from, int to) {
            if (to == from + 1 && to % MOST_FRAMES != 0) {
                return 1;
            }
            int[] first = clips.findSlot(from);
            int[] second = clips.findSlot(to);
            if (first == null || second == null) {
                return NONE;
            }
            int likeness = clips.likeness(first, second, join);
            return likeness <= join ? 2 + likeness : NONE;
        }

        private void keepPath(int from, int goal) {
            pathSize = 0;
            if (walkCost == NONE) {
                return;
            }
            int slot = from;
            for (int n = 0; n < SLOTS && slot != NONE; n++) {
                path[n] = slot;
                pathSize = n + 1;
                slot = slot == goal ? NONE : followers[slot];
            }
        }
    }

    /** A SHEET; an item is held as an int that has been cut to the FORM's bits. */
    private static final class Sheet {
        static final int BYTES = 0, SHORTS = 1, INTS = 2;

        final int[] items = new int[MOST_ITEMS];
        boolean lost = true;
        int form;
        int size;

        void begin(int newForm, int n) {
            Arrays.fill(items, 0);
            lost = false;
            form = newForm;
            size = n;
        }

        boolean holds(int i, int n) {
            return i >= 0 && n >= 0 && i <= size && n <= size - i;
        }

        int wrongItem(int asForm, int i) {
            if (lost) {
                return NULL;
            }
            if (form != asForm) {
                return CAST;
            }
            return isIn(i, 0, size - 1) ? FINE : INDEX;
        }

        int wrongPose(int i, int bones) {
            if (lost) {
                return NULL;
            }
            return holds(i, bones) ? FINE : INDEX;
        }

        void store(int i, int v) {
            items[i] = form == BYTES ? (byte) v : form == SHORTS ? (short) v : v;
        }
    }
}
