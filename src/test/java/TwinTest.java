/**
 * All promises: long runs of calls on a BoneSteps and on Plain, which must answer alike.
 * Only Plain is asked what the next call should be, so that all 512 calls of the BoneSteps are compared.
 */
public final class TwinTest {
    private static final long MOST = 1000000000000L;
    private static final int RUNS = 600;
    private static final int CALLS = 512;
    /** What the end of a run and the last call before it may need. */
    private static final int CALLS_AT_END = 130;
    private static final int KINDS = 34;
    private static final Due due = new Due("TwinTest");

    public static void main(String[] args) {
        for (int run = 0; run < RUNS && due.isRight(); run++) {
            new TwinTest(run).go();
        }
        due.end();
    }

    private final int run;
    private final Numbers numbers;
    private final BoneSteps x = new BoneSteps();
    private final Plain y = new Plain();
    private int calls;
    /** Some runs stay at few CLIPS, few FRAMES or narrow turns, so that rare states come about. */
    private final int clipBound;
    private final int turnBound;
    private final int boneCalls;

    private TwinTest(int run) {
        this.run = run;
        numbers = new Numbers(run);
        clipBound = 1 + numbers.below(6);
        turnBound = numbers.below(2) == 0 ? 36 : 6;
        boneCalls = 1 + numbers.below(14);
    }

    private void go() {
        while (calls < CALLS - CALLS_AT_END && due.isRight()) {
            ask(calls < boneCalls ? 0 : 1 + numbers.below(KINDS - 1));
            if (numbers.below(4) == 0) {
                same("digest()", x.digest(), y.digest());
            }
            if (numbers.below(16) == 0) {
                int what = near(7);
                same("count(" + what + ")", x.count(what), y.count(what));
            }
        }
        compareAtEnd();
        if (calls > CALLS) {
            due.is("run " + run + ", calls", calls, CALLS);
        }
    }

    /** Mostly a number below the bound, sometimes one at or past the edges, rarely one far out. */
    private int near(int bound) {
        int chance = numbers.below(40);
        if (chance == 0) return -1;
        if (chance == 1) return bound;
        if (chance == 2) return numbers.any();
        if (chance == 3) return numbers.below(2) == 0 ? Integer.MIN_VALUE : Integer.MAX_VALUE;
        return bound <= 0 ? 0 : numbers.below(bound);
    }

    private int aBone() {
        return near(y.count(0));
    }

    private int aClip() {
        return near(clipBound);
    }

    private int aFrame(int clip) {
        int size = 0;
        while (y.at(clip, size, 0) >= 0) size++;
        return near(size);
    }

    private long aPlace() {
        int chance = numbers.below(30);
        if (chance == 0) return MOST + numbers.below(2);
        if (chance == 1) return -MOST - numbers.below(2);
        if (chance == 2) return numbers.below(2) == 0 ? Long.MIN_VALUE : Long.MAX_VALUE;
        return numbers.within(chance < 15 ? MOST / 3 : MOST / 100);
    }

    private void ask(int kind) {
        if (kind < 10) {
            askBones(kind);
        } else if (kind < 20) {
            askClips(kind);
        } else if (kind < 25) {
            askGraph(kind);
        } else {
            askSheets(kind);
        }
    }

    private void same(String call, long got, long want) {
        calls++;
        due.is("run " + run + ", call " + calls + ": " + call, got, want);
    }

    private void askBones(int kind) {
        int b = aBone();
        long p = aPlace();
        long q = aPlace();
        int n = near(21);
        switch (kind) {
            case 0:
                int parent = numbers.below(4) == 0 ? near(y.count(0)) : y.count(0) - 1 - numbers.below(2);
                int length = near(101);
                int low = near(36);
                int spread = numbers.below(3) == 0 ? 35 : near(36);
                same("bone(" + parent + ", " + length + ", " + low + ", " + spread + ")",
                    x.bone(parent, length, low, spread), y.bone(parent, length, low, spread));
                break;
            case 1:
                int what = near(5);
                same("about(" + b + ", " + what + ")", x.about(b, what), y.about(b, what));
                break;
            case 2: case 3:
                int t = near(turnBound);
                same("turn(" + b + ", " + t + ")", x.turn(b, t), y.turn(b, t));
                break;
            case 4:
                same("root(" + p + ", " + q + ")", x.root(p, q), y.root(p, q));
                break;
            case 5:
                same("end(" + b + ", " + n % 3 + ")", x.end(b, n % 3), y.end(b, n % 3));
                break;
            case 6:
                same("far(" + b + ", " + p + ", " + q + ")", x.far(b, p, q), y.far(b, p, q));
                break;
            case 7:
                int held = numbers.below(3) > 0 ? -1 : b;
                same("lock(" + held + ")", x.lock(held), y.lock(held));
                break;
            case 8:
                same("two(" + b + ", " + p + ", " + q + ")", x.two(b, p, q), y.two(b, p, q));
                break;
            default:
                same("rounds(" + b + ", " + p + ", " + q + ", " + n + ")",
                    x.rounds(b, p, q, n), y.rounds(b, p, q, n));
                break;
        }
    }

    private void askClips(int kind) {
        int clip = aClip();
        int f = aFrame(clip);
        int g = aFrame(clip);
        int m = numbers.below(2) == 0 ? near(3) : near(19);
        switch (kind) {
            case 10: case 11:
                same("frame(" + clip + ")", x.frame(clip), y.frame(clip));
                break;
            case 12:
                if (numbers.below(8) > 0) {
                    same("frame(" + clip + ")", x.frame(clip), y.frame(clip));
                    break;
                }
                same("clear(" + clip + ")", x.clear(clip), y.clear(clip));
                break;
            case 13:
                same("show(" + clip + ", " + f + ")", x.show(clip, f), y.show(clip, f));
                break;
            case 14:
                int b = aBone();
                same("at(" + clip + ", " + f + ", " + b + ")", x.at(clip, f, b), y.at(clip, f, b));
                break;
            case 15:
                int w = near(101);
                int mask = near(1024);
                same("blend(" + clip + ", " + f + ", " + w + ", " + mask + ")",
                    x.blend(clip, f, w, mask), y.blend(clip, f, w, mask));
                break;
            case 16:
                same("add(" + clip + ", " + f + ", " + g + ")", x.add(clip, f, g), y.add(clip, f, g));
                break;
            case 17:
                int other = aClip();
                int h = aFrame(other);
                same("like(" + clip + ", " + f + ", " + other + ", " + h + ")",
                    x.like(clip, f, other, h), y.like(clip, f, other, h));
                break;
            case 18:
                same("pack(" + clip + ", " + m + ")", x.pack(clip, m), y.pack(clip, m));
                break;
            default:
                if (numbers.below(4) > 0) {
                    same("key(" + m + ")", x.key(m), y.key(m));
                    break;
                }
                same("thin(" + clip + ", " + m + ")", x.thin(clip, m), y.thin(clip, m));
                break;
        }
    }

    private void askGraph(int kind) {
        int clip = aClip();
        int f = aFrame(clip);
        int other = aClip();
        int g = aFrame(other);
        switch (kind) {
            case 20:
                int j = numbers.below(3) > 0 ? near(8) : near(101);
                same("join(" + j + ")", x.join(j), y.join(j));
                break;
            case 21:
                same("live()", x.live(), y.live());
                break;
            case 22:
                same("isLive(" + clip + ", " + f + ")", x.isLive(clip, f), y.isLive(clip, f));
                break;
            case 23:
                same("walk(" + clip + ", " + f + ", " + other + ", " + g + ")",
                    x.walk(clip, f, other, g), y.walk(clip, f, other, g));
                for (int k = 0; y.step(k) >= 0 && k < 40; k++) {
                    same("step(" + k + ")", x.step(k), y.step(k));
                }
                break;
            default:
                int k = near(6);
                same("step(" + k + ")", x.step(k), y.step(k));
                break;
        }
    }

    private void askSheets(int kind) {
        int s = near(4);
        int form = near(3);
        int i = numbers.below(2) == 0 ? near(5) : near(61);
        int v = numbers.below(2) == 0 ? numbers.any() : near(36);
        switch (kind) {
            case 25:
                int n = near(61);
                same("sheet(" + s + ", " + form + ", " + n + ")", x.sheet(s, form, n), y.sheet(s, form, n));
                break;
            case 26:
                same("lose(" + s + ")", x.lose(s), y.lose(s));
                break;
            case 27: case 28:
                same("put(" + s + ", " + form + ", " + i + ", " + v + ")",
                    x.put(s, form, i, v), y.put(s, form, i, v));
                break;
            case 29:
                same("get(" + s + ", " + form + ", " + i + ")", x.get(s, form, i), y.get(s, form, i));
                break;
            case 30: case 31:
                int t = near(4);
                int j = near(20);
                int m = near(40);
                same("copy(" + s + ", " + i + ", " + t + ", " + j + ", " + m + ")",
                    x.copy(s, i, t, j, m), y.copy(s, i, t, j, m));
                break;
            case 32:
                same("pose(" + s + ", " + i + ")", x.pose(s, i), y.pose(s, i));
                break;
            default:
                same("write(" + s + ", " + i + ")", x.write(s, i), y.write(s, i));
                break;
        }
    }

    /** There are not calls enough for all that can be seen: each run looks at one part of it. */
    private void compareAtEnd() {
        for (int k = -1; k < 31; k++) {
            switch (run % 4) {
                case 0:
                    same("key(" + k + ")", x.key(k), y.key(k));
                    same("step(" + k + ")", x.step(k), y.step(k));
                    break;
                case 1:
                    int b = (k + 1) / 3 - 1;
                    int what = (k + 1) % 3;
                    same("about(" + b + ", " + what + ")", x.about(b, what), y.about(b, what));
                    same("end(" + b + ", " + what + ")", x.end(b, what), y.end(b, what));
                    break;
                default:
                    int s = run / 4 % 4;
                    int form = run / 16 % 3;
                    int i = run % 4 == 2 ? k : k + 30;
                    same("get(" + s + ", " + form + ", " + i + ")", x.get(s, form, i), y.get(s, form, i));
                    break;
            }
        }
        same("digest()", x.digest(), y.digest());
    }
}
