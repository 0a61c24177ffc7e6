import java.util.ArrayList;
import java.util.LinkedHashMap;
import java.util.List;
import java.util.Map;
import java.util.function.Supplier;
import java.util.function.ToLongFunction;

/** Objects to ask in tests, and what a refusal must leave as it was. No object here comes near 512 calls. */
final class Scene {
    static final long WHOLE = 1160290625L;
    static final long PART = WHOLE / 65;
    static final long MOST = 1000000000000L;
    static final int LEAST_INT = Integer.MIN_VALUE;
    static final String FINDING = "finding";

    /** A call with one number left open. */
    interface Ask {
        long of(BoneSteps x, int v);
    }

    /** A call with a place left open. */
    interface AskPlace {
        long of(BoneSteps x, long placeX, long placeY);
    }

    static BoneSteps oneBone() {
        return row(1);
    }

    /** BONES of LENGTH 1 one below the other, which may have every TURN. */
    static BoneSteps row(int n) {
        BoneSteps x = new BoneSteps();
        for (int b = 0; b < n; b++) {
            x.bone(b - 1, 1, 0, 35);
        }
        return x;
    }

    /** BONES of LENGTH 1 without PARENT, which may have every TURN. */
    static BoneSteps fan(int n) {
        BoneSteps x = new BoneSteps();
        for (int b = 0; b < n; b++) {
            x.bone(-1, 1, 0, 35);
        }
        return x;
    }

    static BoneSteps limited(int low, int spread) {
        BoneSteps x = new BoneSteps();
        x.bone(-1, 1, low, spread);
        return x;
    }

    /** A FRAME more for each of the TURNS, which are BONE 0's. */
    static void frames(BoneSteps x, int clip, int... turns) {
        for (int t : turns) {
            x.turn(0, t);
            x.frame(clip);
        }
    }

    static BoneSteps clipOf(int... turns) {
        BoneSteps x = oneBone();
        frames(x, 0, turns);
        return x;
    }

    /** SHEET 0 of a FORM with items 1, 2, .. n. */
    static BoneSteps counting(int form, int n) {
        BoneSteps x = new BoneSteps();
        x.sheet(0, form, n);
        for (int i = 0; i < n; i++) {
            x.put(0, form, i, i + 1);
        }
        return x;
    }

    /** All things are there: two trees, two CLIPS, KEYS, a walk, three SHEETS of 3, 4 and 5 items and one LOST. */
    static BoneSteps full() {
        BoneSteps x = new BoneSteps();
        x.bone(-1, 3, 0, 35);
        x.bone(0, 2, 30, 12);
        x.bone(-1, 5, 4, 20);
        x.bone(1, 1, 0, 35);
        x.root(5, -6);
        frames(x, 0, 0, 2, 9, 20);
        x.turn(1, 3);
        frames(x, 5, 3, 4, 30);
        x.turn(2, 24);
        x.pack(0, 1);
        x.walk(0, 0, 0, 2);
        for (int s = 0; s < 3; s++) {
            x.sheet(s, s, 3 + s);
            x.put(s, s, 1, 7 + s);
        }
        return x;
    }

    static BoneSteps locked() {
        BoneSteps x = full();
        x.lock(3);
        return x;
    }

    static void keysAre(Due due, String call, BoneSteps x, int... keys) {
        due.is(call + ", count(4)", x.count(4), keys.length);
        for (int k = 0; k < keys.length; k++) {
            due.is(call + ", key(" + k + ")", x.key(k), keys[k]);
        }
        due.is(call + ", no KEY more", x.key(keys.length), BoneSteps.BAD);
    }

    static void stepsAre(Due due, String call, BoneSteps x, int... frames) {
        for (int k = 0; k < frames.length; k++) {
            due.is(call + ", step(" + k + ")", x.step(k), frames[k]);
        }
        due.is(call + ", it has ended", x.step(frames.length), BoneSteps.BAD);
    }

    /** All that can be seen, by parts; count() 6 comes first, as the look itself makes FINDINGS. */
    static Map<String, List<Long>> look(BoneSteps x) {
        Map<String, List<Long>> parts = new LinkedHashMap<>();
        parts.put(FINDING, List.of((long) x.count(6)));
        parts.put("digest", List.of(x.digest()));
        parts.put("root", List.of(x.end(-1, 0), x.end(-1, 1)));
        parts.put("lock", List.of((long) x.count(2)));
        parts.put("join", List.of((long) x.count(3)));
        lookAtBones(x, parts);
        parts.put("frames", lookAtFrames(x));
        List<Long> keys = new ArrayList<>(List.of((long) x.count(4)));
        List<Long> walk = new ArrayList<>(List.of((long) x.count(5)));
        for (int k = 0; k < 8; k++) {
            keys.add((long) x.key(k));
            walk.add((long) x.step(k));
        }
        parts.put("keys", keys);
        parts.put("walk", walk);
        List<Long> items = new ArrayList<>();
        for (int n = 0; n < 72; n++) {
            items.add((long) x.get(n / 18, n % 3, n % 18 / 3));
        }
        parts.put("sheets", items);
        return parts;
    }

    private static void lookAtBones(BoneSteps x, Map<String, List<Long>> parts) {
        int size = x.count(0);
        List<Long> bones = new ArrayList<>(List.of((long) size));
        List<Long> pose = new ArrayList<>();
        for (int b = 0; b < size; b++) {
            for (int what = 0; what < 4; what++) {
                bones.add((long) x.about(b, what));
            }
            pose.add((long) x.about(b, 4));
        }
        parts.put("bones", bones);
        parts.put("pose", pose);
    }

    private static List<Long> lookAtFrames(BoneSteps x) {
        List<Long> frames = new ArrayList<>(List.of((long) x.count(1)));
        int[] clips = {0, 1, 5};
        for (int clip : clips) {
            for (int f = 0; f < 6; f++) {
                frames.add((long) x.at(clip, f, 0));
                frames.add((long) x.at(clip, f, 1));
            }
        }
        return frames;
    }

    static void refuses(Due due, String call, Supplier<BoneSteps> scene, ToLongFunction<BoneSteps> ask, long answer) {
        boolean isFinding = answer <= -11 && answer >= -15;
        refuses(due, call, scene, ask, answer, isFinding ? (int) (-10 - answer) : 0);
    }

    /** The answer is due, count() 6 is the FINDING, and all else is as in a scene that was not asked. */
    static void refuses(Due due, String call, Supplier<BoneSteps> scene, ToLongFunction<BoneSteps> ask, long answer,
            int finding) {
        BoneSteps x = scene.get();
        due.is(call, ask.applyAsLong(x), answer);
        Map<String, List<Long>> want = look(scene.get());
        want.put(FINDING, List.of((long) finding));
        look(x).forEach((part, seen) -> due.isTrue(call + " leaves the part " + part, seen.equals(want.get(part))));
    }

    static void bad(Due due, String call, Ask ask, int... wrong) {
        for (int v : wrong) {
            refuses(due, call + " with " + v, Scene::full, x -> ask.of(x, v), BoneSteps.BAD);
        }
    }

    static void badAsLong(Due due, String call, Ask ask, int... wrong) {
        for (int v : wrong) {
            refuses(due, call + " with " + v, Scene::full, x -> ask.of(x, v), Due.BAD);
        }
    }

    static void badPlaces(Due due, String call, AskPlace ask, long answer) {
        long[] beyond = {-MOST - 1, MOST + 1, Long.MIN_VALUE, Long.MAX_VALUE, Long.MIN_VALUE + MOST};
        for (long v : beyond) {
            refuses(due, call + " with X " + v, Scene::full, x -> ask.of(x, v, 0), answer);
            refuses(due, call + " with Y " + v, Scene::full, x -> ask.of(x, 0, v), answer);
        }
    }

    /** The nearest numbers that are not from least to most, and the farthest. */
    static int[] outside(int least, int most) {
        return new int[] {least - 1, most + 1, Integer.MIN_VALUE, Integer.MAX_VALUE};
    }
}
