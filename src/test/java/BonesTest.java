/** Promises 1 to 8: a new object, bones, turns, the root, ends, ways and the lock. */
public final class BonesTest {
    private static final long WHOLE = 65L * 65 * 65 * 65 * 65;
    private static final long PART = 65L * 65 * 65 * 65;
    private static final long MOST = 1000000000000L;
    private static final int[] C = {65, 63, 60, 56, 52, 39, 33, 25, 16};
    private static final int[] S = {0, 16, 25, 33, 39, 52, 56, 60, 63};
    private static final Due due = new Due("BonesTest");

    public static void main(String[] args) {
        newObject();
        bone();
        boneRefused();
        about();
        turn();
        turnWithinLimits();
        root();
        end();
        endOfRows();
        far();
        lock();
        lockedPose();
        due.end();
    }

    private static void newObject() {
        due.promise(1, "A new object");
        BoneSteps used = new BoneSteps();
        used.bone(-1, 1, 0, 35);
        used.frame(0);
        used.sheet(0, 2, 3);
        used.lock(0);
        used.join(9);
        BoneSteps x = new BoneSteps();
        int[] counts = {0, 0, -1, 3, 0, -1, 0};
        for (int what = 0; what < counts.length; what++) {
            due.is("count(" + what + ")", x.count(what), counts[what]);
        }
        due.is("digest()", x.digest(), 15699829L);
        due.is("about(0, 0)", x.about(0, 0), -2);
        due.is("end(-1, 0)", x.end(-1, 0), 0);
        due.is("end(-1, 1)", x.end(-1, 1), 0);
        due.is("key(0)", x.key(0), -2);
        due.is("step(0)", x.step(0), -2);
        due.is("live()", x.live(), 0);
        for (int c = 0; c < 6; c++) {
            due.is("clear(" + c + ")", x.clear(c), 0);
        }
        for (int s = 0; s < 4; s++) {
            due.is("lose(" + s + ")", x.lose(s), -11);
        }
    }

    private static void bone() {
        due.promise(2, "bone");
        BoneSteps x = new BoneSteps();
        due.is("the least numbers", x.bone(-1, 1, 0, 0), 0);
        due.is("the greatest numbers", x.bone(0, 100, 35, 35), 1);
        due.is("a row of 3", x.bone(1, 3, 4, 5), 2);
        due.is("a row of 4", x.bone(2, 3, 4, 5), 3);
        due.is("a row of 5", x.bone(3, 3, 4, 5), 4);
        due.is("a row of 6", x.bone(4, 3, 4, 5), -2);
        due.is("count(0)", x.count(0), 5);
        due.is("a row of 5, branching", x.bone(3, 3, 4, 5), 5);
        due.is("another without PARENT", x.bone(-1, 7, 8, 9), 6);
        due.is("8", x.bone(6, 7, 8, 9), 7);
        due.is("9", x.bone(6, 7, 8, 9), 8);
        due.is("10", x.bone(0, 7, 8, 9), 9);
        due.is("11", x.bone(0, 7, 8, 9), -4);
        due.is("11, BAD first", x.bone(10, 7, 8, 9), -2);
        due.is("11, a row of 6 first", x.bone(5, 7, 8, 9), -2);
        x.frame(3);
        due.is("11, NOT first", x.bone(0, 7, 8, 9), -3);
        due.is("count(0)", x.count(0), 10);
        due.is("LOW at first", x.about(1, 4), 35);
        x = new BoneSteps();
        x.root(7, -9);
        x.bone(-1, 1, 9, 0);
        due.is("X at once", x.end(0, 0), 7);
        due.is("Y at once", x.end(0, 1), WHOLE - 9);
    }

    private static void boneRefused() {
        BoneSteps x = new BoneSteps();
        due.is("a PARENT that is not there", x.bone(0, 1, 0, 0), -2);
        due.is("PARENT -2", x.bone(-2, 1, 0, 0), -2);
        due.is("PARENT of the least int", x.bone(Integer.MIN_VALUE, 1, 0, 0), -2);
        due.is("LENGTH 0", x.bone(-1, 0, 0, 0), -2);
        due.is("LENGTH 101", x.bone(-1, 101, 0, 0), -2);
        due.is("LOW -1", x.bone(-1, 1, -1, 0), -2);
        due.is("LOW 36", x.bone(-1, 1, 36, 0), -2);
        due.is("SPREAD -1", x.bone(-1, 1, 0, -1), -2);
        due.is("SPREAD 36", x.bone(-1, 1, 0, 36), -2);
        due.is("count(0)", x.count(0), 0);
        due.is("the first", x.bone(-1, 1, 0, 0), 0);
        due.is("its own number as PARENT", x.bone(1, 1, 0, 0), -2);
        x.frame(5);
        due.is("FRAMES are there", x.bone(0, 1, 0, 0), -3);
        due.is("FRAMES are there, BAD first", x.bone(0, 0, 0, 0), -2);
        x.clear(5);
        due.is("FRAMES are gone", x.bone(0, 1, 0, 0), 1);
        due.is("no FINDING", x.count(6), 0);
    }

    private static void about() {
        due.promise(3, "about");
        BoneSteps x = new BoneSteps();
        x.bone(-1, 12, 30, 10);
        x.bone(0, 99, 7, 0);
        x.turn(0, 3);
        int[][] want = {{-1, 12, 30, 10, 3}, {0, 99, 7, 0, 7}};
        for (int b = 0; b < 2; b++) {
            for (int what = 0; what < 5; what++) {
                due.is("about(" + b + ", " + what + ")", x.about(b, what), want[b][what]);
            }
        }
        due.is("about(2, 0)", x.about(2, 0), -2);
        due.is("about(-1, 0)", x.about(-1, 0), -2);
        due.is("about(0, 5)", x.about(0, 5), -2);
        due.is("about(0, -1)", x.about(0, -1), -2);
    }

    private static void turn() {
        due.promise(4, "turn");
        BoneSteps x = new BoneSteps();
        x.bone(-1, 1, 30, 10);
        due.is("turn(0, 35)", x.turn(0, 35), 30);
        due.is("turn(0, 4)", x.turn(0, 4), 35);
        due.is("turn(0, 5)", x.turn(0, 5), -3);
        due.is("turn(0, 29)", x.turn(0, 29), -3);
        due.is("turn(0, 36)", x.turn(0, 36), -2);
        due.is("turn(0, -1)", x.turn(0, -1), -2);
        due.is("turn(0, -6)", x.turn(0, -6), -2);
        due.is("turn(1, 0)", x.turn(1, 0), -2);
        due.is("turn(-1, 0)", x.turn(-1, 0), -2);
        due.is("a refusal changes nothing", x.about(0, 4), 4);
        due.is("turn(0, 4) again", x.turn(0, 4), 4);
    }

    private static void turnWithinLimits() {
        for (int low = 0; low < 36; low++) {
            for (int spread = 0; spread < 36; spread += 5) {
                BoneSteps x = new BoneSteps();
                x.bone(-1, 1, low, spread);
                boolean[] within = new boolean[36];
                for (int n = 0; n <= spread; n++) {
                    within[(low + n) % 36] = true;
                }
                int latest = low;
                for (int t = 0; t < 36; t++) {
                    String call = "turn(0, " + t + ") within " + low + " and " + spread;
                    due.is(call, x.turn(0, t), within[t] ? latest : -3);
                    latest = within[t] ? t : latest;
                }
            }
        }
    }

    private static void root() {
        due.promise(5, "root");
        BoneSteps x = new BoneSteps();
        x.bone(-1, 2, 0, 0);
        due.is("root(MOST, -MOST)", x.root(MOST, -MOST), 1);
        due.is("end(-1, 0)", x.end(-1, 0), MOST);
        due.is("end(-1, 1)", x.end(-1, 1), -MOST);
        due.is("end(0, 0)", x.end(0, 0), MOST + 2 * WHOLE);
        due.is("root(-MOST, MOST)", x.root(-MOST, MOST), 1);
        due.is("root(MOST + 1, 0)", x.root(MOST + 1, 0), -2);
        due.is("root(-MOST - 1, 0)", x.root(-MOST - 1, 0), -2);
        due.is("root(0, MOST + 1)", x.root(0, MOST + 1), -2);
        due.is("root(0, -MOST - 1)", x.root(0, -MOST - 1), -2);
        due.is("root(least long, 0)", x.root(Long.MIN_VALUE, 0), -2);
        due.is("end(-1, 0)", x.end(-1, 0), -MOST);
        x.lock(0);
        due.is("LOCKED", x.root(0, 0), -3);
        due.is("LOCKED, BAD first", x.root(0, MOST + 1), -2);
        due.is("end(-1, 1)", x.end(-1, 1), MOST);
        x.lock(-1);
        due.is("no more LOCKED", x.root(3, 4), 1);
        due.is("end(-1, 1)", x.end(-1, 1), 4);
    }

    private static void end() {
        due.promise(6, "end");
        BoneSteps x = new BoneSteps();
        x.bone(-1, 1, 0, 35);
        for (int t = 0; t < 36; t++) {
            x.turn(0, t);
            int c = C[t % 9];
            int s = S[t % 9];
            for (int quarter = 0; quarter < t / 9; quarter++) {
                int old = c;
                c = -s;
                s = old;
            }
            due.is("X at TURN " + t, x.end(0, 0), c * PART);
            due.is("Y at TURN " + t, x.end(0, 1), s * PART);
        }
        due.is("end(0, 2)", x.end(0, 2), Due.BAD);
        due.is("end(0, -1)", x.end(0, -1), Due.BAD);
        due.is("end(1, 0)", x.end(1, 0), Due.BAD);
        due.is("end(-2, 0)", x.end(-2, 0), Due.BAD);
        due.is("end(-1, 2)", x.end(-1, 2), Due.BAD);
        x.root(-8, 9);
        due.is("end(-1, 0)", x.end(-1, 0), -8);
        due.is("end(-1, 1)", x.end(-1, 1), 9);
    }

    private static void endOfRows() {
        BoneSteps x = new BoneSteps();
        // (63 + 16 i) (60 + 25 i) is 3380 + 2535 i, which is 65 (52 + 39 i): exactly TURN 4's.
        x.bone(-1, 1, 1, 0);
        x.bone(0, 1, 2, 0);
        due.is("X of two", x.end(1, 0), (63 + 52) * PART);
        due.is("Y of two", x.end(1, 1), (16 + 39) * PART);
        x = new BoneSteps();
        long cx = 1;
        long cy = 0;
        long sumX = 0;
        long sumY = 0;
        long unit = WHOLE;
        for (int b = 0; b < 5; b++) {
            x.bone(b - 1, 10 + b, b + 1, 0);
            long oldX = cx;
            cx = oldX * C[b + 1] - cy * S[b + 1];
            cy = oldX * S[b + 1] + cy * C[b + 1];
            unit /= 65;
            sumX += (10 + b) * cx * unit;
            sumY += (10 + b) * cy * unit;
            due.is("X of a row of " + (b + 1), x.end(b, 0), sumX);
            due.is("Y of a row of " + (b + 1), x.end(b, 1), sumY);
        }
        x.bone(0, 100, 9, 0);
        due.is("X of a branch", x.end(5, 0), (10 * 63 - 100 * 16) * PART);
        due.is("Y of a branch", x.end(5, 1), (10 * 16 + 100 * 63) * PART);
    }

    private static void far() {
        due.promise(7, "far");
        BoneSteps x = new BoneSteps();
        x.bone(-1, 1, 0, 35);
        due.is("by X", x.far(0, 0, 5), WHOLE);
        due.is("by Y", x.far(0, WHOLE + 6, -7), 7);
        due.is("by X below 0", x.far(0, WHOLE + 8, 7), 8);
        due.is("at it", x.far(0, WHOLE, 0), 0);
        due.is("the farthest", x.far(0, -MOST, MOST), MOST + WHOLE);
        due.is("far(0, MOST + 1, 0)", x.far(0, MOST + 1, 0), Due.BAD);
        due.is("far(0, -MOST - 1, 0)", x.far(0, -MOST - 1, 0), Due.BAD);
        due.is("far(0, 0, MOST + 1)", x.far(0, 0, MOST + 1), Due.BAD);
        due.is("far(0, 0, -MOST - 1)", x.far(0, 0, -MOST - 1), Due.BAD);
        due.is("far(1, 0, 0)", x.far(1, 0, 0), Due.BAD);
        due.is("far(-1, 0, 0)", x.far(-1, 0, 0), Due.BAD);
        due.is("far changes nothing", x.about(0, 4), 0);
    }

    private static void lock() {
        due.promise(8, "lock");
        BoneSteps x = new BoneSteps();
        due.is("lock(0)", x.lock(0), -2);
        due.is("lock(-1)", x.lock(-1), -1);
        x.bone(-1, 1, 0, 35);
        x.bone(0, 2, 0, 35);
        due.is("lock(1)", x.lock(1), -1);
        due.is("count(2)", x.count(2), 1);
        due.is("lock(2)", x.lock(2), -2);
        due.is("lock(-2)", x.lock(-2), -2);
        due.is("lock(0)", x.lock(0), 1);
        due.is("lock(-1)", x.lock(-1), 0);
        due.is("count(2)", x.count(2), -1);
    }

    /** Whatever changes the POSE moves THE ROOT, so that THE END of the LOCKED BONE stays. */
    private static void lockedPose() {
        BoneSteps x = new BoneSteps();
        x.bone(-1, 1, 0, 35);
        x.bone(0, 2, 0, 35);
        x.bone(0, 3, 0, 35);
        x.frame(0);
        x.turn(0, 7);
        x.turn(1, 20);
        x.frame(0);
        x.root(100, -100);
        x.lock(1);
        long endX = x.end(1, 0);
        long endY = x.end(1, 1);
        x.sheet(0, 0, 3);
        x.put(0, 0, 0, 11);
        x.put(0, 0, 1, 30);
        for (int n = 0; n < 6; n++) {
            long before = x.end(-1, 0);
            String call = n == 0 ? "turn" : n == 1 ? "show" : n == 2 ? "blend" : n == 3 ? "add" : n == 4 ? "pose" : "bone 0";
            switch (n) {
                case 0: x.turn(1, 3); break;
                case 1: x.show(0, 0); break;
                case 2: x.blend(0, 1, 50, 1023); break;
                case 3: x.add(0, 1, 0); break;
                case 4: x.pose(0, 0); break;
                default: x.turn(0, 29); break;
            }
            due.is("X stays by " + call, x.end(1, 0), endX);
            due.is("Y stays by " + call, x.end(1, 1), endY);
            due.is("THE ROOT moves by " + call, x.end(-1, 0) != before ? 1 : 0, 1);
        }
        x.turn(2, 9);
        due.is("X stays by another BONE's TURN", x.end(1, 0), endX);
        x.lock(-1);
        x.turn(1, 0);
        x.turn(0, 0);
        due.is("no more LOCKED, it moves", x.end(1, 0), x.end(-1, 0) + 3 * WHOLE);
        lockedRootGoesOut();
    }

    /** The bounds of THE ROOT are those of root(): a LOCKED BONE may move it beyond them. */
    private static void lockedRootGoesOut() {
        BoneSteps x = new BoneSteps();
        x.bone(-1, 100, 18, 35);
        x.root(MOST, 0);
        x.lock(0);
        x.turn(0, 0);
        due.is("THE ROOT to the left", x.end(-1, 0), MOST - 200 * WHOLE);
        x.lock(-1);
        x.root(-MOST, 0);
        x.lock(0);
        x.turn(0, 18);
        due.is("THE ROOT to the right", x.end(-1, 0), -MOST + 200 * WHOLE);
        x.lock(-1);
        x.root(-MOST, 0);
        x.turn(0, 18);
        x.lock(0);
        x.turn(0, 0);
        due.is("THE ROOT beyond", x.end(-1, 0), -MOST - 200 * WHOLE);
        due.is("THE END stays", x.end(0, 0), -MOST - 100 * WHOLE);
    }
}
