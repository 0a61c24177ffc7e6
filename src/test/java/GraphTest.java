/** Promises 21 to 25: the graph of frames, which of them are live, and walks. */
public final class GraphTest {
    private static final Due due = new Due("GraphTest");

    public static void main(String[] args) {
        join();
        live();
        liveByOtherClips();
        isLive();
        walk();
        walkOfLikeCost();
        walkBetweenFullClips();
        walkRefused();
        step();
        due.end();
    }

    private static void join() {
        due.promise(21, "join");
        BoneSteps x = new BoneSteps();
        due.is("join(0)", x.join(0), 3);
        due.is("join(100)", x.join(100), 0);
        due.is("join(101)", x.join(101), -2);
        due.is("join(-1)", x.join(-1), -2);
        due.is("count(3)", x.count(3), 100);
        due.is("join(5)", x.join(5), 100);
    }

    private static void live() {
        due.promise(22, "live");
        BoneSteps x = Scene.oneBone();
        due.is("no FRAMES", x.live(), 0);
        Scene.frames(x, 0, 0);
        due.is("one is not like itself", x.live(), 0);
        Scene.frames(x, 0, 10, 20);
        due.is("a row has an end", x.live(), 0);
        Scene.frames(x, 0, 13);
        due.is("10 and 13 are joined", x.live(), 4);
        Scene.frames(x, 0, 30);
        due.is("behind it is a dead end", x.live(), 4);
        x.join(2);
        due.is("no more joined", x.live(), 0);
        x.join(3);
        x.thin(0, 18);
        due.is("thinned: 0 and 30", x.live(), 0);
        x.join(6);
        due.is("joined over 0", x.live(), 2);
    }

    private static void liveByOtherClips() {
        BoneSteps x = Scene.oneBone();
        Scene.frames(x, 0, 0, 6, 12);
        Scene.frames(x, 5, 18, 9, 27);
        due.is("6 and 9, 9 and 12", x.live(), 5);
        x.join(0);
        due.is("none", x.live(), 0);
        Scene.frames(x, 3, 27);
        due.is("the same in another CLIP", x.live(), 4);
        x.clear(3);
        due.is("gone", x.live(), 0);
        x.turn(0, 33);
        for (int f = 0; f < 29; f++) {
            Scene.frames(x, 1, f);
        }
        x.clear(0);
        x.clear(5);
        due.is("a row of 29", x.live(), 0);
        Scene.frames(x, 1, 33);
        Scene.frames(x, 4, 33);
        due.is("the 30th is joined", x.live(), 31);
    }

    private static void isLive() {
        due.promise(23, "isLive");
        BoneSteps x = Scene.oneBone();
        Scene.frames(x, 0, 0, 6, 12);
        Scene.frames(x, 5, 18, 9, 27);
        int[] lives = {1, 1, 1};
        int[] others = {1, 1, 0};
        for (int f = 0; f < 3; f++) {
            due.is("isLive(0, " + f + ")", x.isLive(0, f), lives[f]);
            due.is("isLive(5, " + f + ")", x.isLive(5, f), others[f]);
        }
        due.is("isLive(0, 3)", x.isLive(0, 3), -2);
        due.is("isLive(0, -1)", x.isLive(0, -1), -2);
        due.is("isLive(1, 0)", x.isLive(1, 0), -2);
        due.is("isLive(6, 0)", x.isLive(6, 0), -2);
        due.is("isLive(-1, 0)", x.isLive(-1, 0), -2);
        x.join(2);
        due.is("isLive(0, 0)", x.isLive(0, 0), 0);
    }

    private static void walk() {
        due.promise(24, "walk");
        BoneSteps x = Scene.oneBone();
        Scene.frames(x, 0, 0, 10, 20, 30);
        due.is("along the row", x.walk(0, 0, 0, 3), 3);
        Scene.stepsAre(due, "along the row", x, 0, 1, 2, 3);
        due.is("never back", x.walk(0, 3, 0, 0), -1);
        due.is("count(5)", x.count(5), -1);
        due.is("to itself", x.walk(0, 2, 0, 2), 0);
        Scene.stepsAre(due, "to itself", x, 2);
        Scene.frames(x, 1, 33, 0);
        due.is("joined: 3 for the way, 2", x.walk(0, 3, 1, 0), 5);
        due.is("back over CLIP 1", x.walk(0, 3, 0, 0), 8);
        Scene.stepsAre(due, "back over CLIP 1", x, 3, 30, 31, 0);
        x.join(6);
        due.is("back at once", x.walk(0, 3, 0, 0), 8);
        Scene.stepsAre(due, "the lesser number first", x, 3, 0);
        x.join(2);
        due.is("LIKENESS above JOIN", x.walk(0, 3, 1, 0), -1);
        due.is("the next FRAME costs 1, like or not", x.walk(1, 0, 1, 1), 1);
    }

    private static void walkOfLikeCost() {
        BoneSteps x = Scene.oneBone();
        // From 0 to 6 (FRAME 4) over any of three FRAMES at 3, by 5 and 5.
        Scene.frames(x, 5, 0);
        Scene.frames(x, 3, 3);
        Scene.frames(x, 2, 3);
        Scene.frames(x, 4, 3);
        Scene.frames(x, 0, 6);
        due.is("of like COST", x.walk(5, 0, 0, 0), 10);
        Scene.stepsAre(due, "of like COST the lesser number", x, 150, 60, 0);
        // At the first step in which they part: CLIP 0's FRAME, though what follows is a greater number.
        x = Scene.oneBone();
        Scene.frames(x, 1, 0, 3);
        Scene.frames(x, 0, 3, 5);
        Scene.frames(x, 5, 6);
        x.join(3);
        due.is("two ways", x.walk(1, 0, 5, 0), 6);
        Scene.stepsAre(due, "the cheaper one", x, 30, 31, 150);
        x.clear(1);
        Scene.frames(x, 1, 0);
        due.is("the other", x.walk(1, 0, 5, 0), 9);
        Scene.stepsAre(due, "over CLIP 0", x, 30, 0, 1, 150);
    }

    /** FRAME 29 of a CLIP is not followed by FRAME 0 of the next CLIP. */
    private static void walkBetweenFullClips() {
        BoneSteps x = Scene.oneBone();
        x.join(0);
        for (int f = 0; f < 30; f++) {
            Scene.frames(x, 0, f);
        }
        Scene.frames(x, 1, 30, 31);
        due.is("not over the end", x.walk(0, 29, 1, 0), -1);
        due.is("the whole CLIP", x.walk(0, 0, 0, 29), 29);
        due.is("step(29)", x.step(29), 29);
        due.is("step(30)", x.step(30), -2);
        x.join(1);
        due.is("joined", x.walk(0, 29, 1, 0), 3);
        due.is("from end to end", x.walk(0, 0, 1, 1), 29 + 3 + 1);
        x = Scene.oneBone();
        x.join(0);
        for (int n = 0; n < 180; n++) {
            Scene.frames(x, n / 30, n % 30 + (n / 30 == 5 ? 6 : 0));
        }
        // 35 steps to a next one and one join; CLIP 0, of the lesser numbers, is left at its end.
        due.is("180 FRAMES", x.walk(0, 0, 5, 29), 37);
        due.is("step(29)", x.step(29), 29);
        due.is("step(30)", x.step(30), 173);
        due.is("step(36)", x.step(36), 179);
        due.is("step(37)", x.step(37), -2);
    }

    private static void walkRefused() {
        BoneSteps x = Scene.oneBone();
        Scene.frames(x, 0, 0, 10);
        x.walk(0, 0, 0, 1);
        due.is("FRAME 2", x.walk(0, 2, 0, 1), -2);
        due.is("FRAME -1", x.walk(0, -1, 0, 1), -2);
        due.is("to FRAME 2", x.walk(0, 0, 0, 2), -2);
        due.is("to FRAME -1", x.walk(0, 0, 0, -1), -2);
        due.is("CLIP 6", x.walk(6, 0, 0, 1), -2);
        due.is("CLIP -1", x.walk(-1, 0, 0, 1), -2);
        due.is("to CLIP 6", x.walk(0, 0, 6, 0), -2);
        due.is("to CLIP 1, without FRAMES", x.walk(0, 0, 1, 0), -2);
        due.is("count(5) stays", x.count(5), 1);
        Scene.stepsAre(due, "the walk stays", x, 0, 1);
    }

    private static void step() {
        due.promise(25, "step");
        BoneSteps x = Scene.oneBone();
        due.is("before any", x.step(0), -2);
        Scene.frames(x, 4, 0, 10, 20);
        due.is("walk(4, 0, 4, 2)", x.walk(4, 0, 4, 2), 2);
        Scene.stepsAre(due, "walk(4, 0, 4, 2)", x, 120, 121, 122);
        due.is("step(-1)", x.step(-1), -2);
        due.is("step(greatest int)", x.step(Integer.MAX_VALUE), -2);
        x.clear(4);
        due.is("clear leaves it", x.step(2), 122);
        Scene.frames(x, 4, 0, 10);
        due.is("walk(4, 1, 4, 0)", x.walk(4, 1, 4, 0), -1);
        due.is("it was NONE", x.step(0), -2);
    }
}
