import java.util.Arrays;

/** Sentences on BLENDING, ADDING, CLIPS, LIKENESS and PACKING: of the terms, and promises 11 to 20. */
final class ClipSentences {
    static void tell(Sentences all) {
        tellBlending(all);
        tellPacking(all);
        tellPromises11To15(all);
        tellPromises16To20(all);
    }

    private static void tellBlending(Sentences all) {
        all.holds(0, "BLENDING two POSES by w (0 to 100),", ClipSentences::weights);
        all.holds(0, "BONES by a mask (bits):", ClipSentences::maskBits);
        all.holds(0, "of a BONE in it the first one's TURN and THE SHORT WAY to the second one's times w by 100 "
            + "(cut toward 0),", ClipSentences::cutTowardZero);
        all.holds(0, "INTO LIMITS; others keep the first one's.", ClipSentences::blendIntoLimits);
        all.holds(0, "ADDING a POSE p less q: of each BONE the TURN and THE SHORT WAY from q's to p's, INTO LIMITS.",
            ClipSentences::adding);
        all.holds(0, "CLIPS 0 .. 5", ClipSentences::sixClips);
        all.holds(0, "are rows of up to 30 FRAMES", ClipSentences::thirtyFrames);
        all.holds(0, "(POSES of all BONES;", ClipSentences::framesOfAllBones);
        all.holds(0, "once there are FRAMES no BONE comes).", ClipSentences::noBoneComes);
        all.holds(0, "LIKENESS of two POSES: the sum of all SHORT WAYS' amounts between them.",
            ClipSentences::likenessSums);
    }

    private static void tellPacking(Sentences all) {
        all.holds(0, "PACKING a CLIP with a miss m (0 to 18):", ClipSentences::misses);
        all.holds(0, "KEYS: FRAME 0;", ClipSentences::firstKey);
        all.holds(0, "then, again and again, the last FRAME j behind the latest KEY i", ClipSentences::lastThatFits);
        all.holds(0, "so that each FRAME k between them", ClipSentences::eachBetween);
        all.holds(0, "is, BLENDED of both by 100 (k less i) by (j less i) (cut),", ClipSentences::weightIsCut);
        all.holds(0, "all BONES,", ClipSentences::allBonesFit);
        all.holds(0, "by at most m in each BONE's SHORT WAY as it is;", ClipSentences::atMostTheMiss);
        all.holds(0, "to the last FRAME.", ClipSentences::lastKey);
    }

    private static void tellPromises11To15(Sentences all) {
        all.holds(11, "The POSE is a FRAME more of a CLIP: how many it has.", ClipSentences::frameTells);
        all.holds(11, "BAD;", ClipSentences::frameBad);
        all.holds(11, "NOT: there are no BONES;", ClipSentences::frameNot);
        all.holds(11, "FULL.", ClipSentences::frameFull);
        all.holds(12, "A CLIP is empty: how many FRAMES it had.", ClipSentences::clearTells);
        all.holds(12, "BAD.", ClipSentences::clearBad);
        all.holds(13, "The POSE becomes FRAME f of a CLIP: 1.", ClipSentences::showTells);
        all.holds(13, "BAD.", ClipSentences::showBad);
        all.holds(14, "The TURN of a BONE in FRAME f.", ClipSentences::atTells);
        all.holds(14, "BAD.", ClipSentences::atBad);
        all.holds(15, "The POSE becomes itself BLENDED with FRAME f by w, by a mask (0 to 1023): 1.",
            ClipSentences::blendTells);
        all.holds(15, "BAD.", ClipSentences::blendBad);
    }

    private static void tellPromises16To20(Sentences all) {
        all.holds(16, "To the POSE FRAME f less FRAME g of a CLIP is ADDED:", ClipSentences::addTakesBack);
        all.holds(16, "how many BONES came INTO LIMITS by it (were not within).", ClipSentences::addCounts);
        all.holds(16, "BAD.", ClipSentences::addBad);
        all.holds(17, "LIKENESS of two FRAMES.", ClipSentences::likeTells);
        all.holds(17, "BAD.", ClipSentences::likeBad);
        all.holds(18, "How many KEYS a CLIP PACKED with m has (0: it has no FRAMES).", ClipSentences::packTells);
        all.holds(18, "BAD.", ClipSentences::packBad);
        all.holds(19, "KEY k of the latest pack() or thin() that was told.", ClipSentences::latestKeys);
        all.holds(19, "BAD.", ClipSentences::keyBad);
        all.holds(20, "The CLIP has KEYS of PACKING with m alone from now on: how many went.", ClipSentences::thinTells);
        all.holds(20, "BAD.", ClipSentences::thinBad);
    }

    /** Packs a CLIP of one BONE's TURNS. */
    private static void packs(Due due, int m, int[] turns, int... keys) {
        BoneSteps x = Scene.clipOf(turns);
        String call = Arrays.toString(turns) + " with " + m;
        due.is(call, x.pack(0, m), keys.length);
        Scene.keysAre(due, call, x, keys);
    }

    private static int[] row(int... turns) {
        return turns;
    }

    // ---- BLENDING and ADDING

    private static void weights(Due due) {
        BoneSteps x = Scene.clipOf(18);
        x.turn(0, 0);
        due.is("w 0", x.blend(0, 0, 0, 1), 1);
        due.is("the first one", x.about(0, 4), 0);
        due.is("w 100", x.blend(0, 0, 100, 1), 1);
        due.is("the second one", x.about(0, 4), 18);
        x.turn(0, 0);
        due.is("w 1", x.blend(0, 0, 1, 1), 1);
        due.is("nearly the first one", x.about(0, 4), 0);
        due.is("w 99", x.blend(0, 0, 99, 1), 1);
        due.is("nearly the second one", x.about(0, 4), 17);
        for (int w : Scene.outside(0, 100)) {
            due.is("w " + w, x.blend(0, 0, w, 1), -2);
        }
    }

    private static void maskBits(Due due) {
        BoneSteps x = Scene.fan(10);
        for (int b = 0; b < 10; b++) {
            x.turn(b, 10 + b);
        }
        x.frame(0);
        for (int bit = 0; bit < 10; bit++) {
            for (int b = 0; b < 10; b++) {
                x.turn(b, 0);
            }
            x.blend(0, 0, 100, 1 << bit);
            for (int b = 0; b < 10; b++) {
                due.is("bit " + bit + ", BONE " + b, x.about(b, 4), b == bit ? 10 + b : 0);
            }
        }
        for (int b = 0; b < 10; b++) {
            x.turn(b, 0);
        }
        due.is("no bit", x.blend(0, 0, 100, 0), 1);
        due.is("no BONE", x.about(0, 4) + x.about(9, 4), 0);
        due.is("all bits", x.blend(0, 0, 100, 1023), 1);
        for (int b = 0; b < 10; b++) {
            due.is("BONE " + b, x.about(b, 4), 10 + b);
        }
    }

    private static void cutTowardZero(Due due) {
        for (int way = -17; way <= 18; way++) {
            int from = 3;
            BoneSteps x = Scene.clipOf(Math.floorMod(from + way, 36));
            for (int w = 0; w <= 100; w++) {
                x.turn(0, from);
                x.blend(0, 0, w, 1);
                int amount = Math.abs(way) * w / 100;
                int want = Math.floorMod(way < 0 ? from - amount : from + amount, 36);
                due.is("a way of " + way + " by " + w, x.about(0, 4), want);
            }
        }
    }

    private static void blendIntoLimits(Due due) {
        // LIMITS 2 .. 34; THE SHORT WAY from 4 to 32 goes over 35, 0 and 1, which are not within.
        int[][] rows = {{25, 2}, {37, 2}, {38, 2}, {50, 2}, {62, 2}, {63, 34}, {75, 34}, {100, 32}};
        for (int[] row : rows) {
            BoneSteps x = new BoneSteps();
            x.bone(-1, 1, 2, 32);
            x.bone(-1, 1, 2, 32);
            x.turn(0, 32);
            x.turn(1, 32);
            x.frame(0);
            x.turn(0, 4);
            x.turn(1, 4);
            x.blend(0, 0, row[0], 1);
            due.is("by " + row[0], x.about(0, 4), row[1]);
            due.is("one not in the mask", x.about(1, 4), 4);
        }
    }

    private static void adding(Due due) {
        for (int way = -17; way <= 18; way++) {
            BoneSteps x = Scene.clipOf(30, Math.floorMod(30 + way, 36));
            x.turn(0, 33);
            due.is("a way of " + way, x.add(0, 1, 0), 0);
            due.is("the TURN", x.about(0, 4), Math.floorMod(33 + way, 36));
        }
        // LIMITS 30 .. 4; from 30 to 4 it is a way of 10.
        int[][] rows = {{30, 4}, {31, 4}, {4, 4}, {0, 4}};
        for (int[] row : rows) {
            BoneSteps x = Scene.limited(30, 10);
            Scene.frames(x, 0, 30, 4);
            x.turn(0, row[0]);
            x.add(0, 1, 0);
            due.is("10 more than " + row[0], x.about(0, 4), row[1]);
            x.turn(0, row[0]);
            x.add(0, 0, 1);
            due.is("10 less than " + row[0], x.about(0, 4), 30);
        }
        BoneSteps x = new BoneSteps();
        x.bone(-1, 1, 10, 0);
        x.bone(-1, 1, 0, 35);
        x.frame(0);
        x.turn(1, 20);
        x.frame(0);
        due.is("one BONE has a way, one has none", x.add(0, 1, 0), 0);
        due.is("BONE 0", x.about(0, 4), 10);
        due.is("BONE 1", x.about(1, 4), 4);
    }

    // ---- CLIPS

    private static void sixClips(Due due) {
        BoneSteps x = Scene.oneBone();
        for (int clip = 0; clip < 6; clip++) {
            due.is("frame(" + clip + ")", x.frame(clip), 1);
        }
        due.is("frame(-1)", x.frame(-1), -2);
        due.is("frame(6)", x.frame(6), -2);
        due.is("count(1)", x.count(1), 6);
    }

    private static void thirtyFrames(Due due) {
        BoneSteps x = Scene.oneBone();
        for (int f = 0; f < 30; f++) {
            x.turn(0, f);
            due.is("frame(5)", x.frame(5), f + 1);
        }
        due.is("one more", x.frame(5), -4);
        due.is("the last FRAME", x.at(5, 29, 0), 29);
        due.is("no FRAME behind it", x.at(5, 30, 0), -2);
        due.is("other CLIPS have room", x.frame(4), 1);
        x.clear(5);
        due.is("emptied", x.frame(5), 1);
    }

    private static void framesOfAllBones(Due due) {
        BoneSteps x = Scene.fan(9);
        x.frame(0);
        x.clear(0);
        x.bone(-1, 1, 11, 20);
        x.turn(8, 35);
        x.frame(0);
        due.is("BONE 8", x.at(0, 0, 8), 35);
        due.is("BONE 9, which came later", x.at(0, 0, 9), 11);
        x.turn(9, 31);
        x.frame(0);
        due.is("LIKENESS by BONE 9", x.like(0, 0, 0, 1), 16);
        due.is("no BONE 10", x.at(0, 0, 10), -2);
    }

    private static void noBoneComes(Due due) {
        BoneSteps x = Scene.oneBone();
        due.is("before any", x.bone(0, 1, 0, 35), 1);
        x.frame(2);
        x.frame(5);
        due.is("there are two", x.bone(0, 1, 0, 35), -3);
        x.clear(2);
        due.is("there is one", x.bone(0, 1, 0, 35), -3);
        x.clear(5);
        due.is("there is none", x.bone(0, 1, 0, 35), 2);
    }

    private static void likenessSums(Due due) {
        BoneSteps x = Scene.fan(10);
        x.frame(0);
        for (int b = 0; b < 10; b++) {
            x.turn(b, 18);
        }
        x.frame(0);
        for (int b = 0; b < 10; b++) {
            x.turn(b, b % 2 == 0 ? 19 : 17);
        }
        x.frame(0);
        due.is("18 of each of 10", x.like(0, 0, 0, 1), 180);
        due.is("18 of each of 10, back", x.like(0, 1, 0, 0), 180);
        due.is("-17 and 17", x.like(0, 0, 0, 2), 170);
        due.is("1 and -1 do not cancel", x.like(0, 1, 0, 2), 10);
        due.is("itself", x.like(0, 2, 0, 2), 0);
        x = Scene.clipOf(35, 0);
        due.is("over 35", x.like(0, 0, 0, 1), 1);
        due.is("over 35, back", x.like(0, 1, 0, 0), 1);
    }

    // ---- PACKING

    private static void misses(Due due) {
        packs(due, 0, row(0, 18, 0), 0, 1, 2);
        packs(due, 17, row(0, 18, 0), 0, 1, 2);
        packs(due, 18, row(0, 18, 0), 0, 2);
        BoneSteps x = Scene.clipOf(0, 18, 0);
        for (int m : Scene.outside(0, 18)) {
            due.is("pack(0, " + m + ")", x.pack(0, m), -2);
            due.is("thin(0, " + m + ")", x.thin(0, m), -2);
        }
    }

    private static void firstKey(Due due) {
        packs(due, 0, row(9), 0);
        packs(due, 18, row(9), 0);
        packs(due, 18, row(9, 9), 0, 1);
        packs(due, 0, row(20, 20, 20, 20), 0, 3);
    }

    private static void lastThatFits(Due due) {
        // To FRAME 2 FRAME 1 is missed by 3, but to FRAME 3 none is by more than 2.
        packs(due, 2, row(0, 6, 7, 15), 0, 3);
        // To FRAME 4 FRAME 3 is missed by 12, to FRAME 3 FRAME 2 is by 8, to FRAME 2 none is.
        packs(due, 12, row(0, 4, 8, 0, 16), 0, 4);
        packs(due, 11, row(0, 4, 8, 0, 16), 0, 3, 4);
        packs(due, 7, row(0, 4, 8, 0, 16), 0, 2, 3, 4);
        // The next KEY is looked for from the latest one, not from FRAME 0.
        packs(due, 0, row(0, 2, 4, 4, 4, 9, 14), 0, 2, 4, 6);
    }

    private static void eachBetween(Due due) {
        // The first, the middle and the last of those between spoil a CLIP that stands still.
        packs(due, 4, row(0, 5, 0, 0, 0), 0, 1, 4);
        packs(due, 4, row(0, 0, 5, 0, 0), 0, 2, 4);
        packs(due, 4, row(0, 0, 0, 5, 0), 0, 3, 4);
        packs(due, 5, row(0, 0, 0, 5, 0), 0, 4);
        int[] still = new int[30];
        packs(due, 0, still, 0, 29);
        still[28] = 9;
        packs(due, 0, still, 0, 27, 28, 29);
    }

    private static void weightIsCut(Due due) {
        // By 33, not by a third: 15 by 33 is 4, not 5.
        packs(due, 0, row(0, 5, 10, 15), 0, 2, 3);
        packs(due, 1, row(0, 5, 10, 15), 0, 3);
        packs(due, 0, row(0, 4, 9, 15), 0, 3);
        // Backwards it is cut toward 0, too.
        packs(due, 0, row(0, 32, 27, 21), 0, 3);
        packs(due, 0, row(0, 31, 26, 21), 0, 2, 3);
        // By 16 of 6, 14 of 7 and 12 of 8: ways of 18.
        packs(due, 0, row(0, 2, 5, 9, 11, 14, 18), 0, 6);
        packs(due, 0, row(0, 2, 5, 7, 10, 12, 15, 18), 0, 7);
        packs(due, 0, row(0, 2, 4, 6, 9, 11, 13, 15, 18), 0, 8);
    }

    private static void allBonesFit(Due due) {
        for (int odd = 0; odd < 10; odd++) {
            BoneSteps x = Scene.fan(10);
            x.frame(0);
            x.turn(odd, 3);
            x.frame(0);
            x.turn(odd, 0);
            x.frame(0);
            due.is("BONE " + odd + " misses", x.pack(0, 2), 3);
            due.is("BONE " + odd + " fits", x.pack(0, 3), 2);
        }
        // LIMITS 2 .. 34: halfway from 4 to 32 is 0, which comes INTO LIMITS to 2.
        BoneSteps x = Scene.limited(2, 32);
        Scene.frames(x, 0, 4, 2, 32);
        due.is("INTO LIMITS", x.pack(0, 0), 2);
    }

    private static void atMostTheMiss(Due due) {
        for (int m = 0; m < 18; m++) {
            packs(due, m, row(9, 9 + m, 9), 0, 2);
            packs(due, m, row(9, 9 + m + 1, 9), 0, 1, 2);
            packs(due, m, row(9, Math.floorMod(9 - m, 36), 9), 0, 2);
            packs(due, m, row(9, Math.floorMod(9 - m - 1, 36), 9), 0, 1, 2);
        }
    }

    private static void lastKey(Due due) {
        int[] turns = new int[30];
        for (int f = 0; f < 30; f++) {
            turns[f] = f % 2 * 18;
        }
        BoneSteps x = Scene.clipOf(turns);
        due.is("30 KEYS", x.pack(0, 0), 30);
        due.is("key(29)", x.key(29), 29);
        due.is("key(30)", x.key(30), -2);
        packs(due, 0, row(0, 0, 0, 9), 0, 2, 3);
        packs(due, 0, row(0, 1), 0, 1);
    }

    // ---- promises 11 to 15

    private static void frameTells(Due due) {
        BoneSteps x = Scene.limited(7, 20);
        due.is("the first", x.frame(3), 1);
        x.turn(0, 27);
        due.is("the second", x.frame(3), 2);
        due.is("the first of another", x.frame(0), 1);
        x.turn(0, 9);
        due.is("FRAME 0 is as the POSE was", x.at(3, 0, 0), 7);
        due.is("FRAME 1 is as the POSE was", x.at(3, 1, 0), 27);
        due.is("the POSE stays", x.about(0, 4), 9);
    }

    private static void frameBad(Due due) {
        Scene.bad(due, "CLIP", (x, v) -> x.frame(v), Scene.outside(0, 5));
        BoneSteps x = new BoneSteps();
        due.is("no BONES, BAD first", x.frame(6), -2);
        due.is("no BONES, BAD first", x.frame(-1), -2);
    }

    private static void frameNot(Due due) {
        for (int clip = 0; clip < 6; clip++) {
            int chosen = clip;
            Scene.refuses(due, "frame(" + clip + ")", BoneSteps::new, x -> x.frame(chosen), -3);
        }
        BoneSteps x = Scene.oneBone();
        due.is("with a BONE", x.frame(0), 1);
    }

    private static BoneSteps fullClip() {
        BoneSteps x = Scene.oneBone();
        for (int f = 0; f < 30; f++) {
            x.frame(1);
        }
        x.turn(0, 5);
        return x;
    }

    private static void frameFull(Due due) {
        due.is("the 30th", fullClip().count(1), 30);
        Scene.refuses(due, "the 31st", ClipSentences::fullClip, x -> x.frame(1), -4);
        BoneSteps x = fullClip();
        x.thin(1, 0);
        due.is("thinned to 2", x.frame(1), 3);
    }

    private static void clearTells(Due due) {
        BoneSteps x = fullClip();
        x.frame(2);
        due.is("30 FRAMES", x.clear(1), 30);
        due.is("none", x.clear(1), 0);
        due.is("gone", x.at(1, 0, 0), -2);
        due.is("the other stays", x.at(2, 0, 0), 5);
        due.is("count(1)", x.count(1), 1);
        due.is("the POSE stays", x.about(0, 4), 5);
        x.frame(1);
        due.is("one again", x.pack(1, 0), 1);
        due.is("none of the old ones is back", x.at(1, 1, 0), -2);
        due.is("the new one", x.at(1, 0, 0), 5);
    }

    private static void clearBad(Due due) {
        Scene.bad(due, "CLIP", (x, v) -> x.clear(v), Scene.outside(0, 5));
    }

    private static void showTells(Due due) {
        BoneSteps x = Scene.full();
        due.is("the last FRAME", x.show(0, 3), 1);
        int[] want = {20, 30, 4, 0};
        for (int b = 0; b < 4; b++) {
            due.is("BONE " + b, x.about(b, 4), want[b]);
        }
        due.is("FRAME 0", x.show(5, 0), 1);
        due.is("BONE 0", x.about(0, 4), 3);
        due.is("BONE 1", x.about(1, 4), 3);
        due.is("THE ROOT stays", x.end(-1, 0), 5);
        due.is("it follows at once", x.end(0, 1), 3 * 33 * Scene.PART - 6);
    }

    private static void showBad(Due due) {
        Scene.bad(due, "CLIP", (x, v) -> x.show(v, 0), Scene.outside(0, 5));
        Scene.bad(due, "an empty CLIP", (x, v) -> x.show(v, 0), 1, 2, 3, 4);
        Scene.bad(due, "FRAME of CLIP 0", (x, v) -> x.show(0, v), Scene.outside(0, 3));
        Scene.bad(due, "FRAME of CLIP 5", (x, v) -> x.show(5, v), Scene.outside(0, 2));
    }

    private static void atTells(Due due) {
        BoneSteps x = Scene.full();
        due.is("at(0, 0, 0)", x.at(0, 0, 0), 0);
        due.is("at(0, 3, 0)", x.at(0, 3, 0), 20);
        due.is("at(0, 3, 1)", x.at(0, 3, 1), 30);
        due.is("at(5, 2, 0)", x.at(5, 2, 0), 30);
        due.is("at(5, 2, 1)", x.at(5, 2, 1), 3);
        due.is("at(5, 2, 3)", x.at(5, 2, 3), 0);
    }

    private static void atBad(Due due) {
        Scene.bad(due, "CLIP", (x, v) -> x.at(v, 0, 0), Scene.outside(0, 5));
        Scene.bad(due, "an empty CLIP", (x, v) -> x.at(v, 0, 0), 1, 2, 3, 4);
        Scene.bad(due, "FRAME", (x, v) -> x.at(0, v, 0), Scene.outside(0, 3));
        Scene.bad(due, "BONE", (x, v) -> x.at(0, 0, v), Scene.outside(0, 3));
        BoneSteps x = Scene.fan(10);
        x.frame(0);
        due.is("BONE 9 of 10", x.at(0, 0, 9), 0);
        due.is("BONE 10 of 10", x.at(0, 0, 10), -2);
    }

    private static void blendTells(Due due) {
        BoneSteps x = Scene.full();
        due.is("mask 0", x.blend(0, 3, 100, 0), 1);
        due.is("nothing turns", x.about(0, 4), 30);
        due.is("bits of no BONE", x.blend(0, 3, 100, 1008), 1);
        due.is("nothing turns", x.about(0, 4), 30);
        due.is("mask 1023 with 4 BONES", x.blend(0, 3, 100, 1023), 1);
        int[] want = {20, 30, 4, 0};
        for (int b = 0; b < 4; b++) {
            due.is("BONE " + b, x.about(b, 4), want[b]);
        }
        due.is("the FRAME stays", x.at(0, 3, 0), 20);
    }

    private static void blendBad(Due due) {
        Scene.bad(due, "CLIP", (x, v) -> x.blend(v, 0, 50, 1), Scene.outside(0, 5));
        Scene.bad(due, "an empty CLIP", (x, v) -> x.blend(v, 0, 50, 1), 1, 4);
        Scene.bad(due, "FRAME", (x, v) -> x.blend(0, v, 50, 1), Scene.outside(0, 3));
        Scene.bad(due, "w", (x, v) -> x.blend(0, 0, v, 1), Scene.outside(0, 100));
        Scene.bad(due, "mask", (x, v) -> x.blend(0, 0, 50, v), Scene.outside(0, 1023));
        Scene.bad(due, "w with mask 0", (x, v) -> x.blend(0, 0, v, 0), Scene.outside(0, 100));
        Scene.bad(due, "mask with w 0", (x, v) -> x.blend(0, 0, 0, v), Scene.outside(0, 1023));
    }

    // ---- promises 16 to 20

    private static void addTakesBack(Due due) {
        BoneSteps x = Scene.clipOf(3, 33, 21);
        x.turn(0, 0);
        int[][] rows = {{0, 1, 6}, {1, 0, 0}, {2, 0, 18}, {2, 0, 0}, {0, 2, 18}, {2, 2, 18}, {1, 2, 30}, {1, 2, 6}};
        for (int[] row : rows) {
            due.is("FRAME " + row[0] + " less " + row[1], x.add(0, row[0], row[1]), 0);
            due.is("the TURN", x.about(0, 4), row[2]);
        }
        due.is("the FRAMES stay", x.at(0, 0, 0), 3);
    }

    private static void addCounts(Due due) {
        // LIMITS 10 .. 20 of each; the way from FRAME 0 to FRAME 1 is 5.
        for (int outside = 0; outside <= 10; outside++) {
            BoneSteps x = new BoneSteps();
            for (int b = 0; b < 10; b++) {
                x.bone(-1, 1, 10, 10);
            }
            x.frame(4);
            for (int b = 0; b < 10; b++) {
                x.turn(b, 15);
            }
            x.frame(4);
            for (int b = 0; b < outside; b++) {
                x.turn(b, 16);
            }
            due.is(outside + " beyond the last one, others at it", x.add(4, 1, 0), outside);
            due.is("the TURN", x.about(0, 4), 20);
            due.is("all at the last one, none less", x.add(4, 0, 1), 0);
            for (int b = 0; b < outside; b++) {
                x.turn(b, 14);
            }
            due.is(outside + " below LOW, others at it", x.add(4, 0, 1), outside);
            due.is("the TURN", x.about(0, 4), 10);
        }
        BoneSteps x = Scene.limited(10, 10);
        x.frame(0);
        due.is("no way, none", x.add(0, 0, 0), 0);
    }

    private static void addBad(Due due) {
        Scene.bad(due, "CLIP", (x, v) -> x.add(v, 0, 0), Scene.outside(0, 5));
        Scene.bad(due, "an empty CLIP", (x, v) -> x.add(v, 0, 0), 1, 4);
        Scene.bad(due, "FRAME f", (x, v) -> x.add(5, v, 0), Scene.outside(0, 2));
        Scene.bad(due, "FRAME g", (x, v) -> x.add(5, 0, v), Scene.outside(0, 2));
    }

    private static void likeTells(Due due) {
        BoneSteps x = Scene.full();
        due.is("in one CLIP", x.like(0, 0, 0, 3), 16);
        // BONE 0: 20 and 30, BONE 1: 30 and 3.
        due.is("in two CLIPS, the last of each", x.like(0, 3, 5, 2), 19);
        due.is("in two CLIPS, back", x.like(5, 2, 0, 3), 19);
        due.is("itself", x.like(5, 2, 5, 2), 0);
    }

    private static void likeBad(Due due) {
        Scene.bad(due, "CLIP", (x, v) -> x.like(v, 0, 0, 0), Scene.outside(0, 5));
        Scene.bad(due, "the other CLIP", (x, v) -> x.like(0, 0, v, 0), Scene.outside(0, 5));
        Scene.bad(due, "FRAME", (x, v) -> x.like(0, v, 5, 0), Scene.outside(0, 3));
        Scene.bad(due, "the other FRAME", (x, v) -> x.like(0, 0, 5, v), Scene.outside(0, 2));
        Scene.bad(due, "an empty CLIP", (x, v) -> x.like(0, 0, v, 0), 1, 4);
    }

    private static void packTells(Due due) {
        BoneSteps x = Scene.clipOf(0, 9, 0);
        for (int clip = 1; clip < 6; clip++) {
            due.is("CLIP " + clip + " has no FRAMES", x.pack(clip, 18), 0);
            Scene.keysAre(due, "no FRAMES", x);
        }
        due.is("with 0", x.pack(0, 0), 3);
        due.is("with 18", x.pack(0, 18), 2);
        due.is("the FRAMES stay", x.count(1), 3);
        due.is("the POSE stays", x.about(0, 4), 0);
        x = Scene.oneBone();
        x.frame(5);
        due.is("one FRAME", x.pack(5, 0), 1);
    }

    private static void packBad(Due due) {
        Scene.bad(due, "CLIP", (x, v) -> x.pack(v, 0), Scene.outside(0, 5));
        Scene.bad(due, "m", (x, v) -> x.pack(0, v), Scene.outside(0, 18));
        Scene.bad(due, "m of an empty CLIP", (x, v) -> x.pack(1, v), Scene.outside(0, 18));
    }

    private static void latestKeys(Due due) {
        BoneSteps x = Scene.clipOf(0, 9, 0, 5);
        x.frame(1);
        x.pack(0, 0);
        Scene.keysAre(due, "the first pack()", x, 0, 1, 2, 3);
        due.is("refused", x.pack(0, 19), -2);
        due.is("refused", x.thin(6, 0), -2);
        Scene.keysAre(due, "refusals tell nothing", x, 0, 1, 2, 3);
        x.pack(1, 0);
        Scene.keysAre(due, "the latest pack()", x, 0);
        x.thin(0, 7);
        Scene.keysAre(due, "thin(), by the numbers that FRAMES had", x, 0, 1, 3);
        x.clear(0);
        Scene.keysAre(due, "clear() leaves them", x, 0, 1, 3);
        x.pack(0, 0);
        Scene.keysAre(due, "of an empty CLIP", x);
    }

    private static void keyBad(Due due) {
        due.is("before any", new BoneSteps().key(0), -2);
        BoneSteps scene = Scene.full();
        due.is("KEYS of the scene", scene.count(4), 4);
        Scene.bad(due, "k", (x, v) -> x.key(v), Scene.outside(0, 3));
    }

    private static void thinTells(Due due) {
        BoneSteps x = Scene.clipOf(0, 2, 4, 10, 20);
        Scene.frames(x, 1, 7, 7, 7);
        due.is("one of 5", x.thin(0, 0), 1);
        int[] left = {0, 4, 10, 20};
        for (int f = 0; f < 4; f++) {
            due.is("FRAME " + f, x.at(0, f, 0), left[f]);
        }
        due.is("no FRAME 4", x.at(0, 4, 0), -2);
        due.is("the other CLIP stays", x.at(1, 2, 0), 7);
        due.is("none, as all are KEYS", x.thin(0, 0), 0);
        due.is("all between the first and the last", x.thin(0, 18), 2);
        due.is("two stay two", x.thin(0, 18), 0);
        due.is("the last one", x.at(0, 1, 0), 20);
        due.is("no FRAMES", x.thin(3, 18), 0);
        due.is("count(1)", x.count(1), 5);
        x = Scene.clipOf(new int[30]);
        due.is("28 of 30", x.thin(0, 0), 28);
        due.is("there is room again", x.frame(0), 3);
        x = Scene.clipOf(9);
        due.is("one stays one", x.thin(0, 18), 0);
        thinOfThirtyKeys(due);
    }

    private static void thinOfThirtyKeys(Due due) {
        BoneSteps x = Scene.oneBone();
        for (int f = 0; f < 30; f++) {
            Scene.frames(x, 0, f % 2 == 0 ? 0 : 18);
        }
        due.is("30 KEYS", x.thin(0, 0), 0);
        due.is("key(29)", x.key(29), 29);
        due.is("the last one", x.at(0, 29, 0), 18);
        due.is("no room", x.frame(0), -4);
    }

    private static void thinBad(Due due) {
        Scene.bad(due, "CLIP", (x, v) -> x.thin(v, 18), Scene.outside(0, 5));
        Scene.bad(due, "m", (x, v) -> x.thin(0, v), Scene.outside(0, 18));
        Scene.bad(due, "m of an empty CLIP", (x, v) -> x.thin(1, v), Scene.outside(0, 18));
    }
}
