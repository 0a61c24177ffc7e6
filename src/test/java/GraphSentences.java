/** Sentences on THE GRAPH: of the terms, and promises 21 to 25. */
final class GraphSentences {
    static void tell(Sentences all) {
        all.holds(0, "THE GRAPH: from each FRAME one goes to the next one of its CLIP (COST 1),",
            GraphSentences::nextOfItsClip);
        all.holds(0, "and to each FRAME of any CLIP", GraphSentences::ofAnyClip);
        all.holds(0, "(itself not)", GraphSentences::itselfNot);
        all.holds(0, "whose LIKENESS with it is at most JOIN", GraphSentences::atMostJoin);
        all.holds(0, "(told; 3 at first),", GraphSentences::threeAtFirst);
        all.holds(0, "COST 2 and LIKENESS.", GraphSentences::twoAndLikeness);
        all.holds(0, "LIVE are FRAMES from which one can go on without end.", GraphSentences::withoutEnd);
        all.holds(0, "A WALK: the least COST from one to another;", GraphSentences::leastCost);
        all.holds(0, "of such walks, at the first step in which they part, the lesser number of the FRAME",
            GraphSentences::firstStepThatParts);
        all.holds(0, "(CLIPS one behind the other) gone to.", GraphSentences::clipsOneBehindTheOther);
        all.holds(21, "JOIN: what it was.", GraphSentences::joinTellsBefore);
        all.holds(21, "BAD: 0 to 100.", GraphSentences::joinBad);
        all.holds(22, "How many FRAMES are LIVE.", GraphSentences::liveTells);
        all.holds(23, "Whether FRAME f of a CLIP is: 1, 0.", GraphSentences::isLiveTells);
        all.holds(23, "BAD.", GraphSentences::isLiveBad);
        all.holds(24, "The COST of the WALK from a FRAME to another;", GraphSentences::walkTells);
        all.holds(24, "0 to itself;", GraphSentences::walkToItself);
        all.holds(24, "NONE.", GraphSentences::walkNone);
        all.holds(24, "BAD.", GraphSentences::walkBad);
        all.holds(25, "The FRAME (30 times its CLIP and its number) after k steps (0: the first)",
            GraphSentences::stepTells);
        all.holds(25, "of the latest walk() that was told.", GraphSentences::latestWalk);
        all.holds(25, "BAD: also where it was NONE, or has ended.", GraphSentences::stepBad);
    }

    /** One BONE, CLIP 0 with TURNS 0, 1, .. 29 and JOIN 0, so that none is joined. */
    private static BoneSteps line() {
        BoneSteps x = Scene.oneBone();
        x.join(0);
        for (int t = 0; t < 30; t++) {
            Scene.frames(x, 0, t);
        }
        return x;
    }

    // ---- terms

    private static void nextOfItsClip(Due due) {
        BoneSteps x = line();
        Scene.frames(x, 1, 30, 31);
        due.is("one step", x.walk(0, 0, 0, 1), 1);
        due.is("to the last of 30", x.walk(0, 0, 0, 29), 29);
        due.is("not back", x.walk(0, 1, 0, 0), -1);
        due.is("not from the last to the next CLIP", x.walk(0, 29, 1, 0), -1);
        due.is("the next CLIP", x.walk(1, 0, 1, 1), 1);
        due.is("not from the last to the first", x.walk(1, 1, 1, 0), -1);
        x = Scene.clipOf(5, 5);
        due.is("alike, it is 1 and not 2", x.walk(0, 0, 0, 1), 1);
        due.is("back it is 2", x.walk(0, 1, 0, 0), 2);
    }

    private static void ofAnyClip(Due due) {
        BoneSteps x = Scene.oneBone();
        for (int clip = 0; clip < 6; clip++) {
            Scene.frames(x, clip, 5);
        }
        for (int from = 0; from < 6; from++) {
            for (int to = 0; to < 6; to++) {
                due.is("from CLIP " + from + " to " + to, x.walk(from, 0, to, 0), from == to ? 0 : 2);
            }
        }
        x = Scene.clipOf(5, 20, 5);
        due.is("of its own CLIP, on", x.walk(0, 0, 0, 2), 2);
        Scene.stepsAre(due, "on, by the lesser number", x, 0, 1, 2);
        due.is("of its own CLIP, back", x.walk(0, 2, 0, 0), 2);
    }

    private static void itselfNot(Due due) {
        BoneSteps x = Scene.clipOf(5);
        x.join(100);
        due.is("one FRAME has no way on", x.live(), 0);
        due.is("it is not LIVE", x.isLive(0, 0), 0);
        due.is("a walk to itself takes no step", x.walk(0, 0, 0, 0), 0);
        Scene.frames(x, 3, 5);
        due.is("two have", x.live(), 2);
    }

    private static void atMostJoin(Due due) {
        for (int join = 0; join < 18; join++) {
            BoneSteps x = Scene.clipOf(4);
            Scene.frames(x, 1, 4 + join);
            x.join(join);
            due.is("LIKENESS " + join + " with JOIN " + join, x.walk(0, 0, 1, 0), 2 + join);
            due.is("and back", x.walk(1, 0, 0, 0), 2 + join);
            due.is("both are LIVE", x.live(), 2);
            x.clear(1);
            Scene.frames(x, 1, Math.floorMod(4 - join - 1, 36));
            due.is("LIKENESS one more", x.walk(0, 0, 1, 0), -1);
            due.is("and back", x.walk(1, 0, 0, 0), -1);
            due.is("none is LIVE", x.live(), 0);
        }
        wideJoin(due);
    }

    /** With 6 BONES a LIKENESS comes to 100 and beyond. */
    private static void wideJoin(Due due) {
        BoneSteps x = Scene.fan(6);
        x.frame(0);
        for (int b = 0; b < 5; b++) {
            x.turn(b, 18);
        }
        x.turn(5, 10);
        x.frame(1);
        x.turn(5, 11);
        x.frame(2);
        x.join(100);
        due.is("LIKENESS 100 with JOIN 100", x.walk(0, 0, 1, 0), 102);
        due.is("LIKENESS 101, over LIKENESS 100 and 1", x.walk(0, 0, 2, 0), 105);
        x.clear(1);
        due.is("LIKENESS 101", x.walk(0, 0, 2, 0), -1);
        due.is("not LIVE", x.live(), 0);
    }

    private static void threeAtFirst(Due due) {
        BoneSteps x = Scene.clipOf(10, 20, 13);
        due.is("count(3)", x.count(3), 3);
        due.is("LIKENESS 3 is joined", x.walk(0, 2, 0, 0), 5);
        due.is("what it was", x.join(3), 3);
        x = Scene.clipOf(10, 20, 14);
        due.is("LIKENESS 4 is not", x.walk(0, 2, 0, 0), -1);
    }

    private static void twoAndLikeness(Due due) {
        for (int likeness = 0; likeness <= 18; likeness++) {
            BoneSteps x = Scene.clipOf(30);
            Scene.frames(x, 5, (30 + likeness) % 36);
            x.join(18);
            due.is("LIKENESS " + likeness, x.walk(0, 0, 5, 0), 2 + likeness);
            due.is("LIKENESS " + likeness + ", back", x.walk(5, 0, 0, 0), 2 + likeness);
        }
    }

    private static void withoutEnd(Due due) {
        due.is("no FRAMES", new BoneSteps().live(), 0);
        due.is("a row comes to its end", line().live(), 0);
        BoneSteps x = line();
        Scene.frames(x, 0, 0);
        Scene.frames(x, 1, 7, 30, 31);
        due.is("FRAMES to 7 and CLIP 1's first can go on", x.live(), 8 + 1);
        int[][] rows = {{0, 0, 1}, {0, 7, 1}, {0, 8, 0}, {0, 29, 0}, {1, 0, 1}, {1, 1, 0}, {1, 2, 0}};
        for (int[] row : rows) {
            due.is("FRAME " + row[1] + " of CLIP " + row[0], x.isLive(row[0], row[1]), row[2]);
        }
        Scene.frames(x, 5, 31);
        due.is("joined at its end a CLIP is LIVE", x.live(), 8 + 3 + 1);
        x.clear(5);
        due.is("and a dead end again", x.live(), 8 + 1);
        x = line();
        Scene.frames(x, 5, 29);
        due.is("joined at its 30th FRAME", x.live(), 31);
    }

    private static void leastCost(Due due) {
        BoneSteps x = Scene.oneBone();
        // From TURN 0 to 6: over 3 in CLIP 1 by 5 and 5, or over 2 and 4 in CLIP 2 by 4, 1 and 4.
        Scene.frames(x, 0, 0);
        Scene.frames(x, 1, 3);
        Scene.frames(x, 2, 2, 4);
        Scene.frames(x, 3, 6);
        due.is("three steps for 9", x.walk(0, 0, 3, 0), 9);
        Scene.stepsAre(due, "not two for 10", x, 0, 60, 61, 90);
        x.join(6);
        due.is("one step for 8", x.walk(0, 0, 3, 0), 8);
        Scene.stepsAre(due, "one step for 8", x, 0, 90);
        x.join(2);
        due.is("JOIN 2", x.walk(0, 0, 3, 0), 9);
        x.join(1);
        due.is("JOIN 1", x.walk(0, 0, 3, 0), -1);
    }

    private static void firstStepThatParts(Due due) {
        // Straight to CLIP 1 by 5, or to the next FRAME by 1 and from there by 4.
        BoneSteps x = Scene.clipOf(0, 1);
        Scene.frames(x, 1, 3);
        due.is("like COST", x.walk(0, 0, 1, 0), 5);
        Scene.stepsAre(due, "the lesser number, though more steps", x, 0, 1, 30);
        // The same with the goal in CLIP 0: the lesser number is the goal at once.
        x = Scene.clipOf(3);
        Scene.frames(x, 1, 0, 1);
        due.is("like COST", x.walk(1, 0, 0, 0), 5);
        Scene.stepsAre(due, "the lesser number, and less steps", x, 30, 0);
        // They part at the second step: 90, 31 and 90, 32 are like; 31 comes first.
        x = Scene.oneBone();
        Scene.frames(x, 1, 20, 3, 3);
        Scene.frames(x, 3, 0);
        Scene.frames(x, 2, 6);
        due.is("over 31 or 32", x.walk(3, 0, 2, 0), 10);
        Scene.stepsAre(due, "31", x, 90, 31, 60);
        // 90, 30, 150 by 4 and 4, or 90, 91, 0, 150 by 1, 3 and 4: the first step decides, though 0 is the least.
        x = Scene.oneBone();
        x.join(2);
        Scene.frames(x, 0, 6);
        Scene.frames(x, 1, 2);
        Scene.frames(x, 3, 0, 7);
        Scene.frames(x, 5, 4);
        due.is("over 30 or over 91 and 0", x.walk(3, 0, 5, 0), 8);
        Scene.stepsAre(due, "30", x, 90, 30, 150);
        x.clear(1);
        due.is("over 91 and 0 alone", x.walk(3, 0, 5, 0), 8);
        Scene.stepsAre(due, "91 and 0", x, 90, 91, 0, 150);
    }

    private static void clipsOneBehindTheOther(Due due) {
        // FRAME 2 of CLIP 1 is number 32, FRAME 0 of CLIP 2 number 60: the CLIP counts before the FRAME.
        BoneSteps x = Scene.oneBone();
        Scene.frames(x, 5, 0);
        Scene.frames(x, 1, 20, 25, 3);
        Scene.frames(x, 2, 3);
        Scene.frames(x, 4, 6);
        due.is("over either", x.walk(5, 0, 4, 0), 10);
        Scene.stepsAre(due, "over CLIP 1", x, 150, 32, 120);
        // FRAME 29 of CLIP 0 is number 29, FRAME 0 of CLIP 1 number 30, both of TURN 29.
        x = line();
        Scene.frames(x, 1, 29);
        Scene.frames(x, 2, 31);
        x.join(2);
        due.is("to TURN 27 over either", x.walk(2, 0, 0, 27), 8);
        Scene.stepsAre(due, "over CLIP 0", x, 60, 29, 27);
    }

    // ---- promises

    private static void joinTellsBefore(Due due) {
        BoneSteps x = new BoneSteps();
        due.is("0", x.join(0), 3);
        due.is("100", x.join(100), 0);
        due.is("refused", x.join(101), -2);
        due.is("100 still", x.join(7), 100);
        due.is("7", x.join(7), 7);
        due.is("count(3)", x.count(3), 7);
    }

    private static void joinBad(Due due) {
        Scene.bad(due, "JOIN", (x, v) -> x.join(v), Scene.outside(0, 100));
        BoneSteps x = new BoneSteps();
        for (int join = 0; join <= 100; join++) {
            due.is("join(" + join + ")", x.join(join), join == 0 ? 3 : join - 1);
        }
    }

    private static void liveTells(Due due) {
        BoneSteps x = Scene.oneBone();
        for (int n = 0; n < 180; n++) {
            x.frame(n / 30);
        }
        due.is("all of 180", x.live(), 180);
        x.join(0);
        due.is("all alike, JOIN 0", x.live(), 180);
        for (int clip = 0; clip < 5; clip++) {
            x.clear(clip);
        }
        due.is("30 alike in one CLIP", x.live(), 30);
        x.clear(5);
        due.is("none", x.live(), 0);
        Scene.frames(x, 2, 0, 9, 18);
        due.is("none of 3", x.live(), 0);
        Scene.frames(x, 4, 9);
        due.is("two of one CLIP, one of another", x.live(), 3);
    }

    private static void isLiveTells(Due due) {
        BoneSteps x = Scene.oneBone();
        Scene.frames(x, 0, 0, 9, 18);
        Scene.frames(x, 5, 9);
        int[] want = {1, 1, 0};
        for (int f = 0; f < 3; f++) {
            due.is("isLive(0, " + f + ")", x.isLive(0, f), want[f]);
        }
        due.is("isLive(5, 0)", x.isLive(5, 0), 1);
        x.clear(0);
        due.is("alone", x.isLive(5, 0), 0);
    }

    private static void isLiveBad(Due due) {
        Scene.bad(due, "CLIP", (x, v) -> x.isLive(v, 0), Scene.outside(0, 5));
        Scene.bad(due, "an empty CLIP", (x, v) -> x.isLive(v, 0), 1, 2, 3, 4);
        Scene.bad(due, "FRAME of CLIP 0", (x, v) -> x.isLive(0, v), Scene.outside(0, 3));
        Scene.bad(due, "FRAME of CLIP 5", (x, v) -> x.isLive(5, v), Scene.outside(0, 2));
    }

    private static void walkTells(Due due) {
        BoneSteps x = line();
        for (int f = 0; f < 30; f++) {
            due.is("to FRAME " + f, x.walk(0, 0, 0, f), f);
            due.is("count(5)", x.count(5), f);
        }
        x.join(100);
        due.is("back, in one step", x.walk(0, 29, 0, 0), 2 + 7);
        Scene.stepsAre(due, "back, in one step", x, 29, 0);
        due.is("the greatest way back", x.walk(0, 18, 0, 0), 20);
    }

    private static void walkToItself(Due due) {
        BoneSteps x = Scene.clipOf(5, 5, 20);
        for (int f = 0; f < 3; f++) {
            due.is("FRAME " + f, x.walk(0, f, 0, f), 0);
            Scene.stepsAre(due, "no step", x, f);
            due.is("count(5)", x.count(5), 0);
        }
    }

    private static void walkNone(Due due) {
        BoneSteps x = Scene.clipOf(5, 15, 25);
        due.is("told", x.walk(0, 0, 0, 2), 2);
        due.is("back", x.walk(0, 2, 0, 0), BoneSteps.NONE);
        due.is("count(5)", x.count(5), BoneSteps.NONE);
        Scene.frames(x, 1, 35);
        due.is("to another CLIP", x.walk(0, 0, 1, 0), BoneSteps.NONE);
        due.is("from another CLIP", x.walk(1, 0, 0, 0), BoneSteps.NONE);
    }

    private static void walkBad(Due due) {
        Scene.bad(due, "CLIP", (x, v) -> x.walk(v, 0, 0, 0), Scene.outside(0, 5));
        Scene.bad(due, "FRAME", (x, v) -> x.walk(0, v, 5, 0), Scene.outside(0, 3));
        Scene.bad(due, "the other CLIP", (x, v) -> x.walk(0, 0, v, 0), Scene.outside(0, 5));
        Scene.bad(due, "the other FRAME", (x, v) -> x.walk(0, 0, 5, v), Scene.outside(0, 2));
        Scene.bad(due, "an empty CLIP", (x, v) -> x.walk(v, 0, 0, 0), 1, 2, 3, 4);
        Scene.bad(due, "to an empty CLIP", (x, v) -> x.walk(0, 0, v, 0), 1, 2, 3, 4);
        Scene.bad(due, "to itself, which is not there", (x, v) -> x.walk(0, v, 0, v), Scene.outside(0, 3));
    }

    private static void stepTells(Due due) {
        BoneSteps x = Scene.oneBone();
        for (int t = 0; t < 30; t++) {
            Scene.frames(x, 5, t);
        }
        x.join(0);
        x.walk(5, 0, 5, 29);
        for (int k = 0; k < 30; k++) {
            due.is("step(" + k + ")", x.step(k), 150 + k);
        }
        due.is("step(30)", x.step(30), -2);
    }

    private static void latestWalk(Due due) {
        BoneSteps x = Scene.clipOf(0, 10, 20);
        x.walk(0, 0, 0, 2);
        due.is("refused", x.walk(0, 0, 0, 3), -2);
        Scene.stepsAre(due, "the one before it", x, 0, 1, 2);
        due.is("count(5)", x.count(5), 2);
        x.walk(0, 1, 0, 2);
        Scene.stepsAre(due, "the latest", x, 1, 2);
        x.clear(0);
        x.join(50);
        Scene.stepsAre(due, "as it was told, though its FRAMES went", x, 1, 2);
        due.is("count(5), too", x.count(5), 1);
    }

    private static void stepBad(Due due) {
        BoneSteps x = Scene.clipOf(0, 10);
        due.is("before any", x.step(0), -2);
        x.walk(0, 0, 0, 1);
        due.is("the last", x.step(1), 1);
        due.is("ended", x.step(2), -2);
        due.is("it was NONE", x.walk(0, 1, 0, 0), -1);
        due.is("step(0) of it", x.step(0), -2);
        due.is("step(1) of it", x.step(1), -2);
        Scene.bad(due, "k", (y, v) -> y.step(v), Scene.outside(0, 2));
    }
}
