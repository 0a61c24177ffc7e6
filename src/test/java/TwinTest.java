/** All promises: long runs of calls on a BoneSteps and on Plain, which must answer alike. */
public final class TwinTest {
    private static final long MOST = 1000000000000L;
    private static final int RUNS = 400;
    private static final int CALLS = 512;
    private static final int KINDS = 34;
    private static final Due due = new Due("TwinTest");

    public static void main(String[] args) {
        for (int run = 0; run < RUNS && due.isRight(); run++) {
            new TwinTest(run).go();
        }
        due.end();
    }

    private final Numbers numbers;
    private final String name;
    private final BoneSteps x = new BoneSteps();
    private final Plain y = new Plain();
    /** Some runs stay at few CLIPS, few FRAMES or narrow turns, so that rare states come about. */
    private final int clipBound;
    private final int turnBound;
    private final int boneCalls;

    private TwinTest(int run) {
        numbers = new Numbers(run);
        name = "run " + run + ", call ";
        clipBound = 1 + numbers.below(6);
        turnBound = numbers.below(2) == 0 ? 36 : 6;
        boneCalls = 1 + numbers.below(14);
    }

    private void go() {
        for (int call = 0; call < CALLS && due.isRight(); call++) {
            int kind = call < boneCalls ? 0 : 1 + numbers.below(KINDS - 1);
            String told = name + call + ": " + ask(kind, call);
            due.is(told + ", then digest()", x.digest(), y.digest());
            for (int what = -1; what < 8; what++) {
                due.is(told + ", then count(" + what + ")", x.count(what), y.count(what));
            }
        }
        compareAll();
    }

    /** Mostly a number below the bound, sometimes one at or past the edges, rarely one far out. */
    private int near(int bound) {
        int chance = numbers.below(40);
        if (chance == 0) return -1;
        if (chance == 1) return bound;
        if (chance == 2) return numbers.any();
        if (chance == 3) return numbers.below(2) == 0 ? Integer.MIN_VALUE : Integer.MAX_VALUE;
        return bound <= 0 ? 0 : numbers.below(bound);
    }

    private int aBone() {
        return near(x.count(0));
    }

    private int aClip() {
        return near(clipBound);
    }

    private int aFrame(int clip) {
        int size = 0;
        while (x.at(clip, size, 0) >= 0) size++;
        return near(size);
    }

    private long aPlace() {
        int chance = numbers.below(30);
        if (chance == 0) return MOST + numbers.below(2);
        if (chance == 1) return -MOST - numbers.below(2);
        if (chance == 2) return numbers.below(2) == 0 ? Long.MIN_VALUE : Long.MAX_VALUE;
        return numbers.within(chance < 15 ? MOST / 3 : MOST / 100);
    }

    private String ask(int kind, int call) {
        if (kind < 10) return askBones(kind, call);
        if (kind < 20) return askClips(kind);
        if (kind < 25) return askGraph(kind);
        return askSheets(kind);
    }

    private String same(String call, long got, long want) {
        due.is(name + call, got, want);
        return call;
    }

    private String askBones(int kind, int call) {
        int b = aBone();
        long p = aPlace();
        long q = aPlace();
        int n = near(21);
        switch (kind) {
            case 0:
                int parent = numbers.below(4) == 0 ? near(x.count(0)) : x.count(0) - 1 - numbers.below(2);
                int length = near(101);
                int low = near(36);
                int spread = numbers.below(3) == 0 ? 35 : near(36);
                return same("bone(" + parent + ", " + length + ", " + low + ", " + spread + ")",
                    x.bone(parent, length, low, spread), y.bone(parent, length, low, spread));
            case 1:
                int what = near(5);
                return same("about(" + b + ", " + what + ")", x.about(b, what), y.about(b, what));
            case 2: case 3:
                int t = near(turnBound);
                return same("turn(" + b + ", " + t + ")", x.turn(b, t), y.turn(b, t));
            case 4:
                return same("root(" + p + ", " + q + ")", x.root(p, q), y.root(p, q));
            case 5:
                return same("end(" + b + ", " + n % 3 + ")", x.end(b, n % 3), y.end(b, n % 3));
            case 6:
                return same("far(" + b + ", " + p + ", " + q + ")", x.far(b, p, q), y.far(b, p, q));
            case 7:
                int held = numbers.below(3) > 0 ? -1 : b;
                return same("lock(" + held + ")", x.lock(held), y.lock(held));
            case 8:
                return same("two(" + b + ", " + p + ", " + q + ")", x.two(b, p, q), y.two(b, p, q));
            default:
                return same("rounds(" + b + ", " + p + ", " + q + ", " + n + ")",
                    x.rounds(b, p, q, n), y.rounds(b, p, q, n));
        }
    }

    private String askClips(int kind) {
        int clip = aClip();
        int f = aFrame(clip);
        int g = aFrame(clip);
        int m = numbers.below(2) == 0 ? near(3) : near(19);
        switch (kind) {
            case 10: case 11:
                return same("frame(" + clip + ")", x.frame(clip), y.frame(clip));
            case 12:
                if (numbers.below(8) > 0) return ask(10, 0);
                return same("clear(" + clip + ")", x.clear(clip), y.clear(clip));
            case 13:
                return same("show(" + clip + ", " + f + ")", x.show(clip, f), y.show(clip, f));
            case 14:
                int b = aBone();
                return same("at(" + clip + ", " + f + ", " + b + ")", x.at(clip, f, b), y.at(clip, f, b));
            case 15:
                int w = near(101);
                int mask = near(1024);
                return same("blend(" + clip + ", " + f + ", " + w + ", " + mask + ")",
                    x.blend(clip, f, w, mask), y.blend(clip, f, w, mask));
            case 16:
                return same("add(" + clip + ", " + f + ", " + g + ")", x.add(clip, f, g), y.add(clip, f, g));
            case 17:
                int other = aClip();
                int h = aFrame(other);
                return same("like(" + clip + ", " + f + ", " + other + ", " + h + ")",
                    x.like(clip, f, other, h), y.like(clip, f, other, h));
            case 18:
                return same("pack(" + clip + ", " + m + ")", x.pack(clip, m), y.pack(clip, m));
            default:
                if (numbers.below(4) > 0) return same("key(" + m + ")", x.key(m), y.key(m));
                return same("thin(" + clip + ", " + m + ")", x.thin(clip, m), y.thin(clip, m));
        }
    }

    private String askGraph(int kind) {
        int clip = aClip();
        int f = aFrame(clip);
        int other = aClip();
        int g = aFrame(other);
        switch (kind) {
            case 20:
                int j = numbers.below(3) > 0 ? near(8) : near(101);
                return same("join(" + j + ")", x.join(j), y.join(j));
            case 21:
                return same("live()", x.live(), y.live());
            case 22:
                return same("isLive(" + clip + ", " + f + ")", x.isLive(clip, f), y.isLive(clip, f));
            case 23:
                same("walk(" + clip + ", " + f + ", " + other + ", " + g + ")",
                    x.walk(clip, f, other, g), y.walk(clip, f, other, g));
                for (int k = 0; k < 40; k++) {
                    same("step(" + k + ")", x.step(k), y.step(k));
                }
                return "walk";
            default:
                int k = near(6);
                return same("step(" + k + ")", x.step(k), y.step(k));
        }
    }

    private String askSheets(int kind) {
        int s = near(4);
        int form = near(3);
        int i = numbers.below(2) == 0 ? near(5) : near(61);
        int v = numbers.below(2) == 0 ? numbers.any() : near(36);
        switch (kind) {
            case 25:
                int n = near(61);
                return same("sheet(" + s + ", " + form + ", " + n + ")", x.sheet(s, form, n), y.sheet(s, form, n));
            case 26:
                return same("lose(" + s + ")", x.lose(s), y.lose(s));
            case 27: case 28:
                return same("put(" + s + ", " + form + ", " + i + ", " + v + ")",
                    x.put(s, form, i, v), y.put(s, form, i, v));
            case 29:
                return same("get(" + s + ", " + form + ", " + i + ")", x.get(s, form, i), y.get(s, form, i));
            case 30: case 31:
                int t = near(4);
                int j = near(20);
                int m = near(40);
                return same("copy(" + s + ", " + i + ", " + t + ", " + j + ", " + m + ")",
                    x.copy(s, i, t, j, m), y.copy(s, i, t, j, m));
            case 32:
                return same("pose(" + s + ", " + i + ")", x.pose(s, i), y.pose(s, i));
            default:
                return same("write(" + s + ", " + i + ")", x.write(s, i), y.write(s, i));
        }
    }

    private void compareAll() {
        for (int k = -1; k < 31; k++) {
            same("key(" + k + ")", x.key(k), y.key(k));
            same("step(" + k + ")", x.step(k), y.step(k));
        }
        for (int b = -1; b < 11; b++) {
            for (int what = 0; what < 5; what++) {
                same("about(" + b + ", " + what + ")", x.about(b, what), y.about(b, what));
                same("end(" + b + ", " + what + ")", x.end(b, what), y.end(b, what));
            }
        }
        for (int s = 0; s < 4; s++) {
            for (int form = 0; form < 3; form++) {
                for (int i = 0; i < 61; i++) {
                    same("get(" + s + ", " + form + ", " + i + ")", x.get(s, form, i), y.get(s, form, i));
                }
            }
        }
    }
}
