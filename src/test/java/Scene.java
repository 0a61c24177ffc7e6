import java.util.ArrayList;
import java.util.List;
import java.util.function.Supplier;
import java.util.function.ToLongFunction;

/** Objects to ask in tests, and what a refusal must leave as it was. No object here comes near 512 calls. */
final class Scene {
    static final long WHOLE = 1160290625L;
    static final long PART = WHOLE / 65;
    static final long MOST = 1000000000000L;
    static final int LEAST_INT = Integer.MIN_VALUE;

    /** A call with one number left open. */
    interface Ask {
        long of(BoneSteps x, int v);
    }

    /** A call with a place left open. */
    interface AskPlace {
        long of(BoneSteps x, long placeX, long placeY);
    }

    static BoneSteps oneBone() {
        return row(1);
    }

    /** BONES of LENGTH 1 one below the other, which may have every TURN. */
    static BoneSteps row(int n) {
        BoneSteps x = new BoneSteps();
        for (int b = 0; b < n; b++) {
            x.bone(b - 1, 1, 0, 35);
        }
        return x;
    }

    /** BONES of LENGTH 1 without PARENT, which may have every TURN. */
    static BoneSteps fan(int n) {
        BoneSteps x = new BoneSteps();
        for (int b = 0; b < n; b++) {
            x.bone(-1, 1, 0, 35);
        }
        return x;
    }

    static BoneSteps limited(int low, int spread) {
        BoneSteps x = new BoneSteps();
        x.bone(-1, 1, low, spread);
        return x;
    }

    /** A FRAME more for each of the TURNS, which are BONE 0's. */
    static void frames(BoneSteps x, int clip, int... turns) {
        for (int t : turns) {
            x.turn(0, t);
            x.frame(clip);
        }
    }

    static BoneSteps clipOf(int... turns) {
        BoneSteps x = oneBone();
        frames(x, 0, turns);
        return x;
    }

    /** All things are there: two trees, two CLIPS, KEYS, a walk, three SHEETS of 3, 4 and 5 items and one LOST. */
    static BoneSteps full() {
        BoneSteps x = new BoneSteps();
        x.bone(-1, 3, 0, 35);
        x.bone(0, 2, 30, 12);
        x.bone(-1, 5, 4, 20);
        x.bone(1, 1, 0, 35);
        x.root(5, -6);
        frames(x, 0, 0, 2, 9, 20);
        x.turn(1, 3);
        frames(x, 5, 3, 4, 30);
        x.turn(2, 24);
        x.pack(0, 1);
        x.walk(0, 0, 0, 2);
        for (int s = 0; s < 3; s++) {
            x.sheet(s, s, 3 + s);
            x.put(s, s, 1, 7 + s);
        }
        return x;
    }

    static BoneSteps locked() {
        BoneSteps x = full();
        x.lock(3);
        return x;
    }

    /** All that can be seen; it makes FINDINGS, so count() 6 is not in it. */
    static List<Long> look(BoneSteps x) {
        List<Long> seen = new ArrayList<>();
        seen.add(x.digest());
        seen.add(x.end(-1, 0));
        seen.add(x.end(-1, 1));
        for (int what = 0; what < 6; what++) {
            seen.add((long) x.count(what));
        }
        for (int b = 0; b < x.count(0); b++) {
            for (int what = 0; what < 5; what++) {
                seen.add((long) x.about(b, what));
            }
        }
        for (int k = 0; k < 8; k++) {
            seen.add((long) x.key(k));
            seen.add((long) x.step(k));
        }
        for (int s = 0; s < 4; s++) {
            for (int n = 0; n < 18; n++) {
                seen.add((long) x.get(s, n % 3, n / 3));
            }
        }
        return seen;
    }

    static void refuses(Due due, String call, Supplier<BoneSteps> scene, ToLongFunction<BoneSteps> ask, long answer) {
        boolean isFinding = answer <= -11 && answer >= -15;
        refuses(due, call, scene, ask, answer, isFinding ? (int) (-10 - answer) : 0);
    }

    /** The answer is due, count() 6 is the FINDING, and all else is as in a scene that was not asked. */
    static void refuses(Due due, String call, Supplier<BoneSteps> scene, ToLongFunction<BoneSteps> ask, long answer,
            int finding) {
        BoneSteps x = scene.get();
        due.is(call, ask.applyAsLong(x), answer);
        due.is(call + ", then count(6)", x.count(6), finding);
        due.isTrue(call + " changes nothing else", look(x).equals(look(scene.get())));
    }

    static void bad(Due due, String call, Ask ask, int... wrong) {
        for (int v : wrong) {
            refuses(due, call + " with " + v, Scene::full, x -> ask.of(x, v), BoneSteps.BAD);
        }
    }

    static void badAsLong(Due due, String call, Ask ask, int... wrong) {
        for (int v : wrong) {
            refuses(due, call + " with " + v, Scene::full, x -> ask.of(x, v), Due.BAD);
        }
    }

    static void badPlaces(Due due, String call, AskPlace ask, long answer) {
        long[] beyond = {-MOST - 1, MOST + 1, Long.MIN_VALUE, Long.MAX_VALUE, Long.MIN_VALUE + MOST};
        for (long v : beyond) {
            refuses(due, call + " with X " + v, Scene::full, x -> ask.of(x, v, 0), answer);
            refuses(due, call + " with Y " + v, Scene::full, x -> ask.of(x, 0, v), answer);
        }
    }

    /** The nearest numbers that are not from least to most, and the farthest. */
    static int[] outside(int least, int most) {
        return new int[] {least - 1, most + 1, Integer.MIN_VALUE, Integer.MAX_VALUE};
    }
}
