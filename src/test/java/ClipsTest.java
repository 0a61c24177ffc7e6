/** Promises 11 to 20: frames, blending, adding, likeness and packing. */
public final class ClipsTest {
    private static final Due due = new Due("ClipsTest");

    public static void main(String[] args) {
        frame();
        clear();
        show();
        at();
        blend();
        blendIntoLimits();
        blendRefused();
        add();
        addRefused();
        like();
        pack();
        packLastFrameThatFits();
        packIntoLimits();
        packRefused();
        key();
        thin();
        due.end();
    }

    private static void frame() {
        due.promise(11, "frame");
        BoneSteps x = new BoneSteps();
        due.is("no BONES", x.frame(0), -3);
        due.is("no BONES, BAD first", x.frame(6), -2);
        x.bone(-1, 1, 3, 5);
        due.is("frame(-1)", x.frame(-1), -2);
        due.is("frame(6)", x.frame(6), -2);
        for (int c = 0; c < 6; c++) {
            for (int f = 1; f <= 30; f++) {
                due.is("frame(" + c + ")", x.frame(c), f);
            }
            due.is("the 31st", x.frame(c), -4);
        }
        due.is("count(1)", x.count(1), 180);
        x.turn(0, 7);
        due.is("a FRAME is a POSE of its own", x.at(5, 29, 0), 3);
        x.clear(2);
        due.is("after clear", x.frame(2), 1);
        due.is("the new POSE", x.at(2, 0, 0), 7);
    }

    private static void clear() {
        due.promise(12, "clear");
        BoneSteps x = Scene.clipOf(1, 2, 3);
        x.frame(4);
        due.is("clear(0)", x.clear(0), 3);
        due.is("clear(0) again", x.clear(0), 0);
        due.is("its FRAMES are gone", x.at(0, 0, 0), -2);
        due.is("others stay", x.count(1), 1);
        due.is("clear(-1)", x.clear(-1), -2);
        due.is("clear(6)", x.clear(6), -2);
        due.is("clear(4)", x.clear(4), 1);
        due.is("the POSE stays", x.about(0, 4), 3);
    }

    private static void show() {
        due.promise(13, "show");
        BoneSteps x = new BoneSteps();
        x.bone(-1, 1, 0, 35);
        x.bone(0, 1, 5, 35);
        x.frame(1);
        x.turn(0, 10);
        x.turn(1, 20);
        x.frame(1);
        due.is("show(1, 0)", x.show(1, 0), 1);
        due.is("BONE 0", x.about(0, 4), 0);
        due.is("BONE 1", x.about(1, 4), 5);
        due.is("show(1, 1)", x.show(1, 1), 1);
        due.is("BONE 0", x.about(0, 4), 10);
        due.is("BONE 1", x.about(1, 4), 20);
        due.is("THE END follows", x.end(0, 0), -16L * 65 * 65 * 65 * 65);
        due.is("show(1, 2)", x.show(1, 2), -2);
        due.is("show(1, -1)", x.show(1, -1), -2);
        due.is("show(0, 0)", x.show(0, 0), -2);
        due.is("show(6, 0)", x.show(6, 0), -2);
        due.is("show(-1, 0)", x.show(-1, 0), -2);
        due.is("nothing changed", x.about(1, 4), 20);
    }

    private static void at() {
        due.promise(14, "at");
        BoneSteps x = new BoneSteps();
        x.bone(-1, 1, 0, 35);
        x.bone(-1, 1, 5, 35);
        x.frame(5);
        x.turn(1, 2);
        x.frame(5);
        due.is("at(5, 0, 0)", x.at(5, 0, 0), 0);
        due.is("at(5, 0, 1)", x.at(5, 0, 1), 5);
        due.is("at(5, 1, 1)", x.at(5, 1, 1), 2);
        due.is("at(5, 2, 0)", x.at(5, 2, 0), -2);
        due.is("at(5, -1, 0)", x.at(5, -1, 0), -2);
        due.is("at(5, 0, 2)", x.at(5, 0, 2), -2);
        due.is("at(5, 0, -1)", x.at(5, 0, -1), -2);
        due.is("at(6, 0, 0)", x.at(6, 0, 0), -2);
        due.is("at(-1, 0, 0)", x.at(-1, 0, 0), -2);
    }

    private static void blend() {
        due.promise(15, "blend");
        int[][] rows = {
            // the POSE, the FRAME, w, the TURN due
            {0, 10, 0, 0}, {0, 10, 100, 10}, {0, 10, 50, 5}, {0, 10, 19, 1}, {0, 10, 9, 0}, {10, 0, 19, 9},
            {10, 0, 9, 10}, {0, 18, 50, 9}, {18, 0, 50, 27}, {0, 19, 50, 28}, {35, 2, 34, 0}, {2, 35, 67, 0},
            {2, 35, 100, 35}, {20, 1, 99, 0}, {20, 1, 100, 1}, {0, 1, 99, 0}, {1, 0, 99, 1}
        };
        for (int[] row : rows) {
            BoneSteps x = Scene.clipOf(row[1]);
            x.turn(0, row[0]);
            String call = "TURN " + row[0] + " and " + row[1] + " by " + row[2];
            due.is(call, x.blend(0, 0, row[2], 1), 1);
            due.is(call, x.about(0, 4), row[3]);
        }
        BoneSteps x = new BoneSteps();
        for (int b = 0; b < 10; b++) {
            x.bone(-1, 1, 0, 35);
            x.turn(b, b + 1);
        }
        x.frame(0);
        for (int b = 0; b < 10; b++) {
            x.turn(b, 0);
        }
        due.is("by a mask", x.blend(0, 0, 100, 0b1000000101), 1);
        for (int b = 0; b < 10; b++) {
            due.is("BONE " + b, x.about(b, 4), b == 0 || b == 2 || b == 9 ? b + 1 : 0);
        }
        due.is("by mask 0", x.blend(0, 0, 100, 0), 1);
        due.is("BONE 1", x.about(1, 4), 0);
    }

    private static void blendIntoLimits() {
        // LIMITS 30 .. 6 (a SPREAD of 12); none of the ways from 30 to 6 leaves them.
        BoneSteps x = new BoneSteps();
        x.bone(-1, 1, 30, 12);
        x.frame(0);
        x.turn(0, 6);
        x.blend(0, 0, 50, 1);
        due.is("over 0", x.about(0, 4), 0);
        // LIMITS 2 .. 34: THE SHORT WAY from 4 to 32 goes over 0, which is not within.
        x = new BoneSteps();
        x.bone(-1, 1, 2, 32);
        x.turn(0, 32);
        x.frame(0);
        x.turn(0, 4);
        x.blend(0, 0, 50, 1);
        due.is("of like ways LOW", x.about(0, 4), 2);
        x.turn(0, 4);
        x.blend(0, 0, 63, 1);
        due.is("nearer the last one", x.about(0, 4), 34);
        x.turn(0, 4);
        x.blend(0, 0, 38, 1);
        due.is("nearer LOW", x.about(0, 4), 2);
    }

    private static void blendRefused() {
        BoneSteps x = Scene.clipOf(7);
        x.turn(0, 0);
        due.is("w -1", x.blend(0, 0, -1, 1), -2);
        due.is("w 101", x.blend(0, 0, 101, 1), -2);
        due.is("mask -1", x.blend(0, 0, 100, -1), -2);
        due.is("mask 1024", x.blend(0, 0, 100, 1024), -2);
        due.is("FRAME 1", x.blend(0, 1, 100, 1), -2);
        due.is("FRAME -1", x.blend(0, -1, 100, 1), -2);
        due.is("CLIP 6", x.blend(6, 0, 100, 1), -2);
        due.is("CLIP 1", x.blend(1, 0, 100, 1), -2);
        due.is("nothing changed", x.about(0, 4), 0);
        due.is("mask 1023", x.blend(0, 0, 100, 1023), 1);
        due.is("the TURN", x.about(0, 4), 7);
    }

    private static void add() {
        due.promise(16, "add");
        BoneSteps x = Scene.clipOf(3, 33, 21);
        x.turn(0, 0);
        due.is("3 less 33 is 6", x.add(0, 0, 1), 0);
        due.is("the TURN", x.about(0, 4), 6);
        due.is("taken back", x.add(0, 1, 0), 0);
        due.is("the TURN", x.about(0, 4), 0);
        due.is("21 less 3 is 18", x.add(0, 2, 0), 0);
        due.is("the TURN", x.about(0, 4), 18);
        due.is("33 less 21 is 12", x.add(0, 1, 2), 0);
        due.is("the TURN", x.about(0, 4), 30);
        due.is("33 less 21 again", x.add(0, 1, 2), 0);
        due.is("over 0", x.about(0, 4), 6);
        x = new BoneSteps();
        x.bone(-1, 1, 10, 10);
        x.bone(-1, 1, 10, 10);
        x.bone(-1, 1, 10, 10);
        x.frame(2);
        x.turn(0, 18);
        x.turn(1, 20);
        x.turn(2, 11);
        x.frame(2);
        due.is("two came INTO LIMITS", x.add(2, 1, 0), 2);
        due.is("the last one", x.about(0, 4), 20);
        due.is("the last one", x.about(1, 4), 20);
        due.is("within", x.about(2, 4), 12);
        due.is("none", x.add(2, 0, 0), 0);
        due.is("taken back", x.add(2, 0, 1), 0);
        due.is("the TURN", x.about(0, 4), 12);
        due.is("two below LOW", x.add(2, 0, 1), 2);
        due.is("LOW", x.about(0, 4), 10);
        due.is("at LOW", x.about(1, 4), 10);
    }

    private static void addRefused() {
        BoneSteps x = Scene.clipOf(3, 5);
        due.is("FRAME 2", x.add(0, 2, 0), -2);
        due.is("less FRAME 2", x.add(0, 0, 2), -2);
        due.is("FRAME -1", x.add(0, -1, 0), -2);
        due.is("less FRAME -1", x.add(0, 0, -1), -2);
        due.is("CLIP 1", x.add(1, 0, 0), -2);
        due.is("CLIP 6", x.add(6, 0, 0), -2);
        due.is("CLIP -1", x.add(-1, 0, 0), -2);
        due.is("nothing changed", x.about(0, 4), 5);
    }

    private static void like() {
        due.promise(17, "like");
        BoneSteps x = new BoneSteps();
        for (int b = 0; b < 10; b++) {
            x.bone(-1, 1, 0, 35);
        }
        x.frame(0);
        for (int b = 0; b < 10; b++) {
            x.turn(b, 18);
        }
        x.frame(1);
        x.turn(3, 19);
        x.turn(4, 1);
        x.frame(1);
        due.is("the greatest", x.like(0, 0, 1, 0), 180);
        due.is("the other way", x.like(1, 0, 0, 0), 180);
        due.is("the same", x.like(1, 0, 1, 0), 0);
        due.is("1 and 17", x.like(1, 0, 1, 1), 18);
        due.is("8 times 18, 17 and 1", x.like(0, 0, 1, 1), 162);
        due.is("like(0, 1, 1, 0)", x.like(0, 1, 1, 0), -2);
        due.is("like(0, 0, 1, 2)", x.like(0, 0, 1, 2), -2);
        due.is("like(0, 0, 1, -1)", x.like(0, 0, 1, -1), -2);
        due.is("like(6, 0, 1, 0)", x.like(6, 0, 1, 0), -2);
        due.is("like(0, 0, 6, 0)", x.like(0, 0, 6, 0), -2);
        due.is("like(0, 0, -1, 0)", x.like(0, 0, -1, 0), -2);
    }

    private static void pack() {
        due.promise(18, "pack");
        BoneSteps x = Scene.clipOf(0, 2, 4, 6, 6, 6);
        due.is("exactly", x.pack(0, 0), 4);
        Scene.keysAre(due, "exactly", x, 0, 2, 3, 5);
        // To FRAME 3 by 33 and 66 it is 1 and 3, a miss of 1; to FRAME 4 by 75 it is 4, a miss of 2.
        due.is("a miss of 1", x.pack(0, 1), 3);
        Scene.keysAre(due, "a miss of 1", x, 0, 3, 5);
        // To FRAME 5 by 60 it is 3, a miss of 3.
        due.is("a miss of 2", x.pack(0, 2), 3);
        Scene.keysAre(due, "a miss of 2", x, 0, 4, 5);
        due.is("a miss of 3", x.pack(0, 3), 2);
        Scene.keysAre(due, "a miss of 3", x, 0, 5);
        due.is("a miss of 18", x.pack(0, 18), 2);
        due.is("the FRAMES stay", x.count(1), 6);
        x = Scene.clipOf(9);
        due.is("one FRAME", x.pack(0, 0), 1);
        Scene.keysAre(due, "one FRAME", x, 0);
        due.is("no FRAMES", x.pack(1, 0), 0);
        Scene.keysAre(due, "no FRAMES", x);
        x = Scene.clipOf(9, 30);
        due.is("two FRAMES", x.pack(0, 0), 2);
        Scene.keysAre(due, "two FRAMES", x, 0, 1);
        x = Scene.clipOf(34, 0, 2);
        due.is("over 0", x.pack(0, 0), 2);
        x = Scene.clipOf(0, 35, 0);
        due.is("a miss below", x.pack(0, 0), 3);
        due.is("a miss below of 1", x.pack(0, 1), 2);
    }

    /** The last FRAME that fits counts, though one before it may not fit. */
    private static void packLastFrameThatFits() {
        // To FRAME 2 by 50 it is 3, a miss of 3; to FRAME 3 by 33 and 66 it is 4 and 9, misses of 2.
        Scene.keysAre(due, "past one that does not fit", clipPacked(2, 0, 6, 7, 15), 0, 3);
        Scene.keysAre(due, "each one", clipPacked(1, 0, 6, 7, 15), 0, 1, 2, 3);
        // To FRAME 4 FRAME 3 is missed by 12, to FRAME 3 FRAME 2 is by 8, to FRAME 2 none is.
        Scene.keysAre(due, "a miss of 12", clipPacked(12, 0, 4, 8, 0, 16), 0, 4);
        Scene.keysAre(due, "a miss of 11", clipPacked(11, 0, 4, 8, 0, 16), 0, 3, 4);
        Scene.keysAre(due, "a miss of 7", clipPacked(7, 0, 4, 8, 0, 16), 0, 2, 3, 4);
        // To FRAME 3 by 33 it is 4, not 5; to FRAME 4 THE SHORT WAY goes back.
        Scene.keysAre(due, "cut", clipPacked(0, 0, 5, 10, 15, 20, 25), 0, 2, 4, 5);
    }

    private static BoneSteps clipPacked(int m, int... turns) {
        BoneSteps x = Scene.clipOf(turns);
        x.pack(0, m);
        return x;
    }

    private static void packIntoLimits() {
        // LIMITS 2 .. 34: between 4 and 32 it comes INTO LIMITS, to LOW, where FRAME 1 is.
        BoneSteps x = new BoneSteps();
        x.bone(-1, 1, 2, 32);
        int[] turns = {4, 2, 32};
        for (int t : turns) {
            x.turn(0, t);
            x.frame(0);
        }
        due.is("INTO LIMITS", x.pack(0, 0), 2);
        // Each BONE has to be near enough.
        x = new BoneSteps();
        x.bone(-1, 1, 0, 35);
        x.bone(-1, 1, 0, 35);
        x.frame(0);
        x.turn(1, 5);
        x.frame(0);
        x.turn(1, 0);
        x.frame(0);
        due.is("BONE 1 misses", x.pack(0, 4), 3);
        due.is("BONE 1 fits", x.pack(0, 5), 2);
    }

    private static void packRefused() {
        BoneSteps x = Scene.clipOf(0, 9, 0);
        due.is("pack(0, 0)", x.pack(0, 0), 3);
        due.is("m -1", x.pack(0, -1), -2);
        due.is("m 19", x.pack(0, 19), -2);
        due.is("CLIP -1", x.pack(-1, 18), -2);
        due.is("CLIP 6", x.pack(6, 18), -2);
        Scene.keysAre(due, "refusals change nothing", x, 0, 1, 2);
    }

    private static void key() {
        due.promise(19, "key");
        BoneSteps x = Scene.clipOf(0, 9, 0);
        due.is("before any", x.key(0), -2);
        due.is("count(4) before any", x.count(4), 0);
        x.pack(0, 18);
        due.is("key(0)", x.key(0), 0);
        due.is("key(1)", x.key(1), 2);
        due.is("key(2)", x.key(2), -2);
        due.is("key(-1)", x.key(-1), -2);
        x.clear(0);
        due.is("clear leaves it", x.key(1), 2);
        x.pack(0, 18);
        due.is("an empty CLIP", x.key(0), -2);
    }

    private static void thin() {
        due.promise(20, "thin");
        BoneSteps x = Scene.clipOf(0, 2, 4, 9, 20);
        due.is("one went", x.thin(0, 0), 1);
        Scene.keysAre(due, "one went", x, 0, 2, 3, 4);
        int[] left = {0, 4, 9, 20};
        due.is("count(1)", x.count(1), 4);
        for (int f = 0; f < left.length; f++) {
            due.is("at(0, " + f + ", 0)", x.at(0, f, 0), left[f]);
        }
        due.is("no FRAME more", x.at(0, 4, 0), -2);
        due.is("the rest", x.thin(0, 18), 2);
        due.is("at(0, 1, 0)", x.at(0, 1, 0), 20);
        due.is("none", x.thin(0, 18), 0);
        due.is("a FRAME more", x.frame(0), 3);
        due.is("m 19", x.thin(0, 19), -2);
        due.is("m -1", x.thin(0, -1), -2);
        due.is("CLIP 6", x.thin(6, 0), -2);
        due.is("CLIP -1", x.thin(-1, 0), -2);
        Scene.keysAre(due, "refusals change nothing", x, 0, 1);
        due.is("the POSE stays", x.about(0, 4), 20);
        due.is("an empty CLIP", x.thin(3, 0), 0);
        Scene.keysAre(due, "an empty CLIP", x);
        x = Scene.clipOf(0);
        for (int f = 1; f < 30; f++) {
            x.turn(0, f % 2 * 9);
            x.frame(0);
        }
        due.is("all are KEYS", x.thin(0, 0), 0);
        due.is("count(4)", x.count(4), 30);
        due.is("key(29)", x.key(29), 29);
        due.is("at(0, 29, 0)", x.at(0, 29, 0), 9);
    }
}
