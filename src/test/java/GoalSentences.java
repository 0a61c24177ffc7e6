import java.util.Arrays;

/** Sentences on GOALS: of the terms, and promises 9 and 10. */
final class GoalSentences {
    private static final long WHOLE = Scene.WHOLE;
    private static final long PART = Scene.PART;
    private static final long MOST = Scene.MOST;

    static void tell(Sentences all) {
        all.namesNoBoundary(0, "A GOAL is a place for THE END of a BONE b.");
        all.holds(0, "By TWO: b and its PARENT", GoalSentences::twoAlone);
        all.holds(0, "(alone, if it has none)", GoalSentences::oneAlone);
        all.holds(0, "get those TURNS within LIMITS by which THE END is least FAR from it;", GoalSentences::twoAreLeast);
        all.holds(0, "of like ones the PARENT's least number,", GoalSentences::parentsLeast);
        all.holds(0, "then b's.", GoalSentences::thenItsOwnLeast);
        all.holds(0, "By ROUNDS: n times,", GoalSentences::soManyTimes);
        all.holds(0, "from b up to the BONE without PARENT:", GoalSentences::fromTipUp);
        all.holds(0, "each gets the TURN within LIMITS by which THE END of b is least FAR from it,",
            GoalSentences::roundsAreLeast);
        all.holds(0, "its own, if that is as good,", GoalSentences::itsOwnIfAsGood);
        all.holds(0, "else of like ones the least number.", GoalSentences::elseTheLeastNumber);
        all.holds(9, "A GOAL by TWO (without a BONE LOCKED): how FAR it is then.", GoalSentences::twoTells);
        all.holds(9, "BAD;", GoalSentences::twoBad);
        all.holds(9, "NOT: a BONE is LOCKED.", GoalSentences::twoNot);
        all.holds(10, "A GOAL by ROUNDS, n (1 to 20): how FAR it is then.", GoalSentences::roundsTell);
        all.holds(10, "BAD;", GoalSentences::roundsBad);
        all.holds(10, "NOT: a BONE is LOCKED.", GoalSentences::roundsNot);
    }

    /** BONES in a row, of each LENGTH, LOW and SPREAD. */
    private static BoneSteps row(int... numbers) {
        BoneSteps x = new BoneSteps();
        for (int k = 0; k + 2 < numbers.length; k += 3) {
            x.bone(k / 3 - 1, numbers[k], numbers[k + 1], numbers[k + 2]);
        }
        return x;
    }

    private static void turnsAre(Due due, String call, BoneSteps x, int... turns) {
        for (int b = 0; b < turns.length; b++) {
            due.is(call + ", TURN of BONE " + b, x.about(b, 4), turns[b]);
        }
    }

    // ---- TWO

    private static void twoAlone(Due due) {
        BoneSteps x = row(1, 9, 35, 2, 0, 35, 2, 0, 35, 5, 7, 35);
        x.bone(1, 7, 5, 35);
        x.bone(-1, 1, 3, 35);
        due.is("BONE 2 of a row of 4", x.two(2, 4 * WHOLE, WHOLE), 0);
        turnsAre(due, "only BONES 1 and 2 turn", x, 9, 27, 0, 7, 5, 3);
        due.is("THE ROOT stays", x.end(-1, 0), 0);
    }

    private static void oneAlone(Due due) {
        BoneSteps x = row(10, 0, 35, 2, 4, 35);
        x.bone(-1, 10, 0, 35);
        due.is("the first of a row", x.two(0, 0, -10 * WHOLE), 0);
        turnsAre(due, "it alone turns", x, 27, 4, 0);
        due.is("one beside it", x.two(2, -10 * WHOLE, 0), 0);
        turnsAre(due, "it alone turns", x, 27, 4, 18);
    }

    /** Rows of LIMITS of a PARENT and of its BONE, over 35 and of one TURN among them, tried one by one. */
    private static void twoAreLeast(Due due) {
        int[][] limits = {
            {0, 5, 0, 5}, {33, 6, 30, 10}, {10, 0, 20, 9}, {35, 1, 17, 2}, {7, 12, 35, 0}, {28, 15, 4, 8}, {5, 0, 5, 0}
        };
        long[][] goals = {{15, 0}, {-4, 9}, {0, 0}, {-15, -15}, {3, -8}, {800, 1}, {-1, 800}};
        for (int[] row : limits) {
            for (long[] goal : goals) {
                int[] numbers = {10, row[0], row[1], 6, row[2], row[3]};
                long goalX = goal[0] * WHOLE + 17;
                long goalY = goal[1] * WHOLE - 5;
                BoneSteps tried = row(numbers);
                long least = Long.MAX_VALUE;
                int parent = -1;
                int tip = -1;
                for (int n = 0; n < 36 * 36; n++) {
                    if (isWithin(row[0], row[1], n / 36) && isWithin(row[2], row[3], n % 36)) {
                        tried.turn(0, n / 36);
                        tried.turn(1, n % 36);
                        long far = tried.far(1, goalX, goalY);
                        if (far < least) {
                            least = far;
                            parent = n / 36;
                            tip = n % 36;
                        }
                    }
                }
                BoneSteps x = row(numbers);
                String call = "LIMITS " + Arrays.toString(row) + " to " + goal[0] + ", " + goal[1];
                due.is(call, x.two(1, goalX, goalY), least);
                turnsAre(due, call, x, parent, tip);
            }
        }
    }

    private static boolean isWithin(int low, int spread, int t) {
        return Math.floorMod(t - low, 36) <= spread;
    }

    private static void parentsLeast(Due due) {
        BoneSteps x = row(10, 20, 35, 10, 0, 35);
        due.is("folded, any of the PARENT's would do", x.two(1, 0, 0), 0);
        turnsAre(due, "the PARENT's least, not LOW", x, 0, 18);
        due.is("two ways to a corner", x.two(1, 10 * WHOLE, -10 * WHOLE), 0);
        turnsAre(due, "the PARENT's least, though b's is greater", x, 0, 27);
        x = row(10, 30, 10, 10, 0, 35);
        due.is("LIMITS over 35", x.two(1, 0, 0), 0);
        turnsAre(due, "the least number, not LOW", x, 0, 18);
        x = row(10, 30, 5, 10, 0, 35);
        x.turn(0, 33);
        due.is("LIMITS to 35", x.two(1, 0, 0), 0);
        turnsAre(due, "the least number, not its own", x, 30, 18);
        x = row(1, 35, 2, 1, 18, 0);
        due.is("0 of 35, 0 and 1", x.two(1, 0, 0), 0);
        turnsAre(due, "0 of 35, 0 and 1", x, 0, 18);
    }

    private static void thenItsOwnLeast(Due due) {
        BoneSteps x = row(1, 0, 0, 1, 17, 2);
        x.turn(1, 19);
        due.is("17 and 19 are alike", x.two(1, MOST, 0), MOST - 2 * PART);
        turnsAre(due, "17, not its own", x, 0, 17);
        x = row(1, 0, 0, 1, 35, 2);
        due.is("35 and 1 are alike", x.two(1, -MOST, 0), MOST + 128 * PART);
        turnsAre(due, "1, not LOW", x, 0, 1);
        x = row(1, 35, 2);
        due.is("alone, 35 and 1 are alike", x.two(0, -MOST, 0), MOST + 63 * PART);
        turnsAre(due, "alone 1, not LOW", x, 1);
        due.is("alone, 0 and 1 are alike", x.two(0, 64 * PART, 8 * PART), 8 * PART);
        turnsAre(due, "alone 0, not its own", x, 0);
    }

    private static void twoTells(Due due) {
        BoneSteps x = row(10, 0, 35, 5, 0, 35);
        long told = x.two(1, 5000000000L, 9000000000L);
        due.is("as far() tells", x.far(1, 5000000000L, 9000000000L), told);
        due.is("at it", x.two(1, 15 * WHOLE, 0), 0);
        due.is("again", x.two(1, 15 * WHOLE, 0), 0);
        due.is("the farthest place", x.two(1, -MOST, 0), MOST - 15 * WHOLE);
        due.is("the farthest corner", x.two(0, MOST, -MOST), x.far(0, MOST, -MOST));
        x.lock(1);
        x.lock(-1);
        due.is("no more LOCKED", x.two(1, 15 * WHOLE, 0), 0);
    }

    private static void twoBad(Due due) {
        Scene.badAsLong(due, "BONE", (x, v) -> x.two(v, 0, 0), Scene.outside(0, 3));
        Scene.badPlaces(due, "two", (x, placeX, placeY) -> x.two(1, placeX, placeY), Due.BAD);
        Scene.refuses(due, "LOCKED, BAD first", Scene::locked, x -> x.two(4, 0, 0), Due.BAD);
        Scene.refuses(due, "LOCKED, a BAD place first", Scene::locked, x -> x.two(0, 0, MOST + 1), Due.BAD);
    }

    private static void twoNot(Due due) {
        for (int b = 0; b < 4; b++) {
            int bone = b;
            Scene.refuses(due, "BONE " + b, Scene::locked, x -> x.two(bone, 0, 0), Due.NOT);
        }
        BoneSteps x = Scene.full();
        x.lock(0);
        due.is("BONE 0 LOCKED", x.two(3, 0, 0), Due.NOT);
    }

    // ---- ROUNDS

    /** Four BONES which every one of 20 ROUNDS brings nearer, and then no one any more. */
    private static BoneSteps slow() {
        return row(8, 19, 1, 4, 33, 17, 3, 3, 28, 13, 30, 19);
    }

    private static void soManyTimes(Due due) {
        BoneSteps single = slow();
        for (int n = 1; n <= 20; n++) {
            long before = single.digest();
            long told = single.rounds(3, 30 * WHOLE, -23 * WHOLE, 1);
            due.isTrue("round " + n + " changes something", single.digest() != before);
            BoneSteps x = slow();
            due.is(n + " rounds", x.rounds(3, 30 * WHOLE, -23 * WHOLE, n), told);
            due.is(n + " rounds are one " + n + " times", x.digest(), single.digest());
        }
    }

    /** The tip turns up first, and its PARENT then turns both; the PARENT first would be 9 and 0. */
    private static void fromTipUp(Due due) {
        BoneSteps x = row(1, 0, 35, 1, 0, 35, 7, 5, 35);
        x.bone(-1, 3, 4, 35);
        x.bone(0, 3, 8, 35);
        // By TURN 4 or 5 of the PARENT the two of them come 91 PARTS up.
        due.is("tip, then PARENT", x.rounds(1, 0, 12 * WHOLE, 1), 12 * WHOLE - 91 * PART);
        turnsAre(due, "none below it and none beside it turns", x, 4, 9, 5, 4, 8);
        // From there the tip points straight up by 5, and of 6 and 7 the PARENT takes 6: 116 PARTS up.
        due.is("again", x.rounds(1, 0, 12 * WHOLE, 1), 12 * WHOLE - 116 * PART);
        turnsAre(due, "again", x, 6, 5, 5, 4, 8);
        // BONES 4, 2 and 0 turn back; to BONES 3 and 1 what hangs on them comes to nothing, so they stay.
        BoneSteps five = Scene.row(5);
        due.is("a row of 5", five.rounds(4, -5 * WHOLE, 0, 1), 4 * WHOLE);
        turnsAre(due, "a row of 5, up to the first", five, 18, 0, 18, 0, 18);
        BoneSteps first = Scene.row(5);
        due.is("the first alone", first.rounds(0, 0, WHOLE, 20), 0);
        turnsAre(due, "the first alone", first, 9, 0, 0, 0, 0);
    }

    /** BONE b gets the TURN within LIMITS by which THE END of tip is least FAR, by turn() and far() alone. */
    private static void tryAll(BoneSteps x, int b, int tip, int low, int spread, long goalX, long goalY) {
        int best = x.about(b, 4);
        long least = x.far(tip, goalX, goalY);
        for (int t = 0; t < 36; t++) {
            if (isWithin(low, spread, t)) {
                x.turn(b, t);
                long far = x.far(tip, goalX, goalY);
                if (far < least) {
                    least = far;
                    best = t;
                }
            }
        }
        x.turn(b, best);
    }

    private static void roundsAreLeast(Due due) {
        int[][] limits = {
            {0, 35, 0, 35}, {33, 6, 30, 10}, {10, 0, 20, 9}, {35, 1, 17, 2}, {7, 12, 35, 0}, {28, 15, 4, 8}
        };
        long[][] goals = {{15, 0}, {-4, 9}, {0, 0}, {-15, -15}, {3, -8}, {800, 1}, {-1, 800}};
        for (int[] row : limits) {
            for (long[] goal : goals) {
                int[] numbers = {10, row[0], row[1], 6, row[2], row[3], 3, 34, 5};
                long goalX = goal[0] * WHOLE + 17;
                long goalY = goal[1] * WHOLE - 5;
                BoneSteps tried = row(numbers);
                tryAll(tried, 2, 2, 34, 5, goalX, goalY);
                tryAll(tried, 1, 2, row[2], row[3], goalX, goalY);
                tryAll(tried, 0, 2, row[0], row[1], goalX, goalY);
                BoneSteps x = row(numbers);
                String call = "LIMITS " + Arrays.toString(row) + " to " + goal[0] + ", " + goal[1];
                due.is(call, x.rounds(2, goalX, goalY, 1), tried.far(2, goalX, goalY));
                turnsAre(due, call, x, tried.about(0, 4), tried.about(1, 4), tried.about(2, 4));
            }
        }
    }

    private static void itsOwnIfAsGood(Due due) {
        int[] own = {17, 19};
        for (int t : own) {
            BoneSteps x = row(1, 17, 2);
            x.turn(0, t);
            due.is("17 and 19 are alike", x.rounds(0, MOST, 0, 20), MOST + 63 * PART);
            turnsAre(due, "its own", x, t);
        }
        for (int t = 0; t < 36; t++) {
            BoneSteps x = row(10, 0, 35, 10, 18, 0);
            x.turn(0, t);
            due.is("folded, all are alike", x.rounds(1, 5 * WHOLE, 0, 20), 5 * WHOLE);
            turnsAre(due, "its own", x, t, 18);
        }
        BoneSteps x = row(1, 35, 2);
        x.turn(0, 1);
        due.is("0 and 1 are alike", x.rounds(0, 64 * PART, 8 * PART, 1), 8 * PART);
        turnsAre(due, "its own", x, 1);
    }

    private static void elseTheLeastNumber(Due due) {
        BoneSteps x = row(1, 17, 2);
        x.turn(0, 18);
        due.is("17 and 19 are better", x.rounds(0, MOST, 0, 1), MOST + 63 * PART);
        turnsAre(due, "17", x, 17);
        x = row(1, 35, 2);
        x.turn(0, 0);
        due.is("35 and 1 are better", x.rounds(0, -MOST, 0, 1), MOST + 63 * PART);
        turnsAre(due, "1, not LOW", x, 1);
        x = row(1, 35, 2);
        due.is("0 and 1 are better", x.rounds(0, 64 * PART, 8 * PART, 1), 8 * PART);
        turnsAre(due, "0", x, 0);
    }

    private static void roundsTell(Due due) {
        BoneSteps x = slow();
        long told = x.rounds(3, 30 * WHOLE, -23 * WHOLE, 1);
        due.is("n 1, as far() tells", x.far(3, 30 * WHOLE, -23 * WHOLE), told);
        told = x.rounds(3, 30 * WHOLE, -23 * WHOLE, 20);
        due.is("n 20, as far() tells", x.far(3, 30 * WHOLE, -23 * WHOLE), told);
        x = Scene.oneBone();
        due.is("at it", x.rounds(0, WHOLE, 0, 1), 0);
        due.is("the farthest place", x.rounds(0, 0, -MOST, 20), MOST - WHOLE);
        due.is("the farthest corner", x.rounds(0, MOST, MOST, 1), x.far(0, MOST, MOST));
    }

    private static void roundsBad(Due due) {
        Scene.badAsLong(due, "n", (x, v) -> x.rounds(1, 0, 0, v), Scene.outside(1, 20));
        Scene.badAsLong(due, "BONE", (x, v) -> x.rounds(v, 0, 0, 1), Scene.outside(0, 3));
        Scene.badPlaces(due, "rounds", (x, placeX, placeY) -> x.rounds(1, placeX, placeY, 1), Due.BAD);
        Scene.refuses(due, "LOCKED, n 0 is BAD first", Scene::locked, x -> x.rounds(0, 0, 0, 0), Due.BAD);
        Scene.refuses(due, "LOCKED, n 21 is BAD first", Scene::locked, x -> x.rounds(0, 0, 0, 21), Due.BAD);
    }

    private static void roundsNot(Due due) {
        for (int b = 0; b < 4; b++) {
            int bone = b;
            Scene.refuses(due, "BONE " + b, Scene::locked, x -> x.rounds(bone, 0, 0, 20), Due.NOT);
        }
        BoneSteps x = Scene.full();
        x.lock(0);
        due.is("BONE 0 LOCKED", x.rounds(3, 0, 0, 1), Due.NOT);
    }
}
