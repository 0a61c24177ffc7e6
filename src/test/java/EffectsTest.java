import java.util.Arrays;
import java.util.List;
import java.util.Map;
import java.util.Set;
import java.util.TreeSet;
import java.util.function.Supplier;
import java.util.function.ToLongFunction;

/** A call that is not refused changes just the parts that its promise names, and no call changes the latest FINDING. */
public final class EffectsTest {
    private static final Due due = new Due("EffectsTest");

    public static void main(String[] args) {
        bones();
        goals();
        clips();
        graph();
        sheets();
        due.end();
    }

    /** A FINDING is told already, so that a call that took it back would be seen. */
    private static BoneSteps found() {
        BoneSteps x = Scene.full();
        x.lose(3);
        return x;
    }

    private static BoneSteps foundAndLocked() {
        BoneSteps x = found();
        x.lock(3);
        return x;
    }

    private static BoneSteps lockedWithoutFrames() {
        BoneSteps x = foundAndLocked();
        x.clear(0);
        x.clear(5);
        return x;
    }

    private static void changes(String call, ToLongFunction<BoneSteps> ask, String... parts) {
        changes(call, EffectsTest::found, ask, parts);
    }

    private static void changes(String call, Supplier<BoneSteps> scene, ToLongFunction<BoneSteps> ask, String... parts) {
        BoneSteps x = scene.get();
        due.isTrue(call + " is not refused", ask.applyAsLong(x) >= 0);
        Map<String, List<Long>> before = Scene.look(scene.get());
        Set<String> changed = new TreeSet<>();
        Scene.look(x).forEach((part, seen) -> {
            if (!seen.equals(before.get(part))) {
                changed.add(part);
            }
        });
        Set<String> want = new TreeSet<>(Arrays.asList(parts));
        due.isTrue(call + " changes " + want + ", not " + changed, changed.equals(want));
    }

    private static void bones() {
        changes("bone", EffectsTest::lockedWithoutFrames, x -> x.bone(3, 7, 5, 9), "bones", "digest", "pose");
        changes("about", x -> x.about(0, 4));
        changes("turn", x -> x.turn(0, 9), "digest", "pose");
        changes("turn, LOCKED", EffectsTest::foundAndLocked, x -> x.turn(0, 9), "digest", "pose", "root");
        changes("turn to itself", EffectsTest::foundAndLocked, x -> x.turn(0, 30));
        changes("root", x -> x.root(-7, 8), "digest", "root");
        changes("end", x -> Math.abs(x.end(0, 1)));
        changes("far", x -> x.far(0, 1, 2));
        changes("lock", EffectsTest::foundAndLocked, x -> x.lock(0), "digest", "lock");
        changes("lock of NONE", EffectsTest::foundAndLocked, x -> x.lock(-1), "digest", "lock");
    }

    private static void goals() {
        changes("two", x -> x.two(3, -Scene.WHOLE, 2 * Scene.WHOLE), "digest", "pose");
        changes("rounds", x -> x.rounds(3, -Scene.WHOLE, 2 * Scene.WHOLE, 2), "digest", "pose");
    }

    private static void clips() {
        changes("frame", EffectsTest::foundAndLocked, x -> x.frame(1), "digest", "frames");
        changes("clear", EffectsTest::foundAndLocked, x -> x.clear(0), "digest", "frames");
        changes("clear of an empty CLIP", x -> x.clear(3));
        changes("show", x -> x.show(0, 1), "digest", "pose");
        changes("show, LOCKED", EffectsTest::foundAndLocked, x -> x.show(0, 1), "digest", "pose", "root");
        changes("at", x -> x.at(0, 1, 0));
        changes("blend", x -> x.blend(0, 2, 50, 1023), "digest", "pose");
        changes("blend, LOCKED", EffectsTest::foundAndLocked, x -> x.blend(0, 2, 50, 1023), "digest", "pose", "root");
        changes("blend by mask 0", EffectsTest::foundAndLocked, x -> x.blend(0, 2, 50, 0));
        changes("blend by w 0", EffectsTest::foundAndLocked, x -> x.blend(0, 2, 0, 1023));
        changes("add", x -> x.add(0, 2, 0), "digest", "pose");
        changes("add, LOCKED", EffectsTest::foundAndLocked, x -> x.add(0, 2, 0), "digest", "pose", "root");
        changes("add of none", EffectsTest::foundAndLocked, x -> x.add(0, 2, 2));
        changes("like", x -> x.like(0, 0, 5, 2));
        changes("pack", EffectsTest::foundAndLocked, x -> x.pack(5, 0), "keys");
        changes("key", x -> x.key(1));
        changes("thin", EffectsTest::foundAndLocked, x -> x.thin(0, 18), "digest", "frames", "keys");
    }

    private static void graph() {
        changes("join", EffectsTest::foundAndLocked, x -> x.join(7), "digest", "join");
        changes("live", EffectsTest::foundAndLocked, x -> x.live());
        changes("isLive", x -> x.isLive(5, 2));
        changes("walk", EffectsTest::foundAndLocked, x -> x.walk(5, 0, 5, 1), "walk");
        changes("step", x -> x.step(1));
    }

    private static void sheets() {
        changes("sheet", EffectsTest::foundAndLocked, x -> x.sheet(0, 2, 2), "sheets");
        changes("lose", EffectsTest::foundAndLocked, x -> x.lose(1), "sheets");
        changes("put", x -> x.put(0, 0, 0, 1), "sheets");
        changes("get", x -> x.get(0, 0, 1));
        changes("copy", x -> x.copy(2, 1, 2, 0, 2), "sheets");
        changes("copy of none", x -> x.copy(2, 1, 2, 0, 0));
        changes("pose", x -> x.pose(2, 0), "digest", "pose");
        changes("pose, LOCKED", EffectsTest::foundAndLocked, x -> x.pose(2, 0), "digest", "pose", "root");
        changes("write", EffectsTest::foundAndLocked, x -> x.write(2, 1), "sheets");
        changes("count", x -> x.count(6));
        changes("digest", x -> Math.abs(x.digest() % 2));
    }
}
