/** Sentences on TURNS, BONES and places: of the terms, and promises 1 to 8. */
final class BoneSentences {
    private static final int[] C = {65, 63, 60, 56, 52, 39, 33, 25, 16};
    private static final int[] S = {0, 16, 25, 33, 39, 52, 56, 60, 63};

    static void tell(Sentences all) {
        tellTurns(all);
        tellBones(all);
        tellPlaces(all);
        tellNewObject(all);
        tellPromises2To4(all);
        tellPromises5To8(all);
    }

    private static void tellTurns(Sentences all) {
        all.holds(0, "TURNS are 0 ..", BoneSentences::noTurnBelow0);
        all.holds(0, "35:", BoneSentences::noTurnAbove35);
        all.holds(0, "of TURN 0 .. 8 C and S are 65 0, 63 16, 60 25, 56 33, 52 39, 39 52, 33 56, 25 60, 16 63;",
            BoneSentences::turns0To8);
        all.holds(0, "9 TURNS more make of C, S: -S, C.", BoneSentences::quarters);
        all.holds(0, "THE SHORT WAY from a TURN t to u is u less t, 36 more or less, so that it is -17 to 18.",
            BoneSentences::shortWays);
    }

    private static void tellBones(Sentences all) {
        all.holds(0, "BONES 0 .. 9 (10 at most)", BoneSentences::tenBones);
        all.holds(0, "have a PARENT (a lesser number; NONE),", BoneSentences::lesserParent);
        all.holds(0, "a LENGTH (1 to 100),", BoneSentences::lengths);
        all.holds(0, "and LIMITS: LOW and a SPREAD (0 to 35):", BoneSentences::lowsAndSpreads);
        all.holds(0, "the TURNS LOW, LOW and 1, .. LOW and SPREAD (modulo 36).", BoneSentences::limitsGoRound);
        all.holds(0, "A row from a BONE without PARENT to a BONE has 5 BONES at most.", BoneSentences::rowsOfFive);
        all.holds(0, "A POSE has a TURN of each BONE, within LIMITS", BoneSentences::poseStaysWithin);
        all.holds(0, "(LOW at first).", BoneSentences::lowAtFirst);
        all.holds(0, "INTO LIMITS comes a TURN by going to the nearer of LOW and the last one, by steps round",
            BoneSentences::intoLimits);
        all.holds(0, "(of like ways LOW).", BoneSentences::ofLikeWaysLow);
    }

    private static void tellPlaces(Sentences all) {
        all.holds(0, "PLACES are in UNITS (65 to the power of 5, 1160290625, to a whole).", BoneSentences::units);
        all.holds(0, "With C, S of BONE b as one number C and S i (i i being -1), DIRECTION of b is that of its PARENT "
            + "times its own, by 65 (of one without PARENT its own, by 65): exactly.", BoneSentences::directions);
        all.holds(0, "THE END of a BONE is THE END of its PARENT (of one without: THE ROOT) and its LENGTH times its "
            + "DIRECTION.", BoneSentences::endsFollow);
        all.holds(0, "THE ROOT is at X, Y (UNITS, -1000000000000 to 1000000000000;", BoneSentences::rootBounds);
        all.holds(0, "0 at first).", BoneSentences::rootAtFirst);
        all.holds(0, "FAR are two places by the greater one of the differences of X and of Y.",
            BoneSentences::greaterDifference);
        all.holds(0, "LOCKING a BONE: while it is LOCKED,", BoneSentences::whileLocked);
        all.holds(0, "whatever changes the POSE moves THE ROOT, too, so that THE END of it stays.",
            BoneSentences::lockedEndStays);
    }

    private static void tellNewObject(Sentences all) {
        all.holds(1, "No BONES,", BoneSentences::newWithoutBones);
        all.holds(1, "CLIPS are empty,", BoneSentences::newWithoutFrames);
        all.holds(1, "nothing is LOCKED;", BoneSentences::newWithoutLock);
        all.holds(1, "all SHEETS are LOST.", BoneSentences::newWithoutSheets);
    }

    private static void tellPromises2To4(Sentences all) {
        all.holds(2, "A BONE more: its number.", BoneSentences::boneNumbers);
        all.holds(2, "BAD: also a row of 6;", BoneSentences::boneBad);
        all.holds(2, "NOT: there are FRAMES;", BoneSentences::boneNot);
        all.holds(2, "FULL.", BoneSentences::boneFull);
        all.holds(3, "Of a BONE: 0 PARENT, 1 LENGTH, 2 LOW, 3 SPREAD, 4 its TURN.", BoneSentences::aboutTells);
        all.holds(3, "BAD.", BoneSentences::aboutBad);
        all.holds(4, "The TURN of a BONE: what it was.", BoneSentences::turnTellsBefore);
        all.holds(4, "BAD;", BoneSentences::turnBad);
        all.holds(4, "NOT: not within its LIMITS.", BoneSentences::turnNot);
    }

    private static void tellPromises5To8(Sentences all) {
        all.holds(5, "THE ROOT: 1.", BoneSentences::rootMoves);
        all.holds(5, "BAD;", BoneSentences::rootBad);
        all.holds(5, "NOT: a BONE is LOCKED.", BoneSentences::rootNot);
        all.holds(6, "THE END of a BONE: 0 X, 1 Y.", BoneSentences::endTells);
        all.holds(6, "NONE as BONE: THE ROOT.", BoneSentences::endOfNone);
        all.holds(6, "BAD.", BoneSentences::endBad);
        all.holds(7, "How FAR THE END of a BONE is from a place (as THE ROOT's).", BoneSentences::farthestPlaces);
        all.holds(7, "BAD.", BoneSentences::farBad);
        all.holds(8, "A BONE is LOCKED (NONE: none is): which was (NONE).", BoneSentences::lockTellsBefore);
        all.holds(8, "BAD.", BoneSentences::lockBad);
    }

    // ---- TURNS

    private static void noTurnBelow0(Due due) {
        BoneSteps x = Scene.oneBone();
        x.turn(0, 5);
        due.is("turn(0, 0)", x.turn(0, 0), 5);
        due.is("turn(0, -1)", x.turn(0, -1), -2);
        due.is("LOW -1", x.bone(-1, 1, -1, 35), -2);
        due.is("LOW 0", x.bone(-1, 1, 0, 35), 1);
    }

    private static void noTurnAbove35(Due due) {
        BoneSteps x = Scene.oneBone();
        due.is("turn(0, 35)", x.turn(0, 35), 0);
        due.is("turn(0, 36)", x.turn(0, 36), -2);
        due.is("LOW 36", x.bone(-1, 1, 36, 35), -2);
        due.is("LOW 35", x.bone(-1, 1, 35, 35), 1);
    }

    private static void turns0To8(Due due) {
        for (int t = 0; t < 9; t++) {
            BoneSteps x = Scene.limited(t, 0);
            due.is("C of TURN " + t, x.end(0, 0), C[t] * Scene.PART);
            due.is("S of TURN " + t, x.end(0, 1), S[t] * Scene.PART);
        }
    }

    private static void quarters(Due due) {
        BoneSteps x = Scene.oneBone();
        for (int t = 0; t < 36; t++) {
            x.turn(0, t);
            long c = x.end(0, 0);
            long s = x.end(0, 1);
            x.turn(0, (t + 9) % 36);
            due.is("C 9 after TURN " + t, x.end(0, 0), -s);
            due.is("S 9 after TURN " + t, x.end(0, 1), c);
        }
    }

    /** A BLEND by 100 goes the whole SHORT WAY and one by 50 half of it, so both ends of -17 to 18 show. */
    private static void shortWays(Due due) {
        for (int from = 0; from < 36; from++) {
            BoneSteps x = Scene.oneBone();
            for (int to = 0; to < 36; to++) {
                Scene.frames(x, to / 30, to);
            }
            for (int way = -17; way <= 18; way++) {
                int to = Math.floorMod(from + way, 36);
                x.turn(0, from);
                x.blend(to / 30, to % 30, 50, 1);
                due.is("half the way from " + from + " to " + to, x.about(0, 4), Math.floorMod(from + way / 2, 36));
                due.is("its amount", x.like(to / 30, to % 30, from / 30, from % 30), Math.abs(way));
            }
        }
    }

    // ---- BONES

    private static void tenBones(Due due) {
        BoneSteps x = new BoneSteps();
        due.is("about(0, 1) before", x.about(0, 1), -2);
        for (int b = 0; b < 10; b++) {
            due.is("its number", x.bone(-1, 1, 0, 35), b);
        }
        due.is("one more", x.bone(-1, 1, 0, 35), -4);
        due.is("about(9, 1)", x.about(9, 1), 1);
        due.is("about(10, 1)", x.about(10, 1), -2);
        due.is("turn(9, 35)", x.turn(9, 35), 0);
        due.is("lock(9)", x.lock(9), -1);
    }

    private static void lesserParent(Due due) {
        BoneSteps x = new BoneSteps();
        due.is("NONE", x.bone(-1, 1, 0, 35), 0);
        for (int b = 1; b < 10; b++) {
            due.is("BONE " + b + " of its own number", x.bone(b, 1, 0, 35), -2);
            due.is("BONE " + b + " of a greater number", x.bone(b + 1, 1, 0, 35), -2);
            due.is("BONE " + b + " of a lesser number", x.bone((b - 1) / 2, 1, 0, 35), b);
            due.is("its PARENT", x.about(b, 0), (b - 1) / 2);
        }
        due.is("PARENT of the first", x.about(0, 0), -1);
    }

    private static void lengths(Due due) {
        BoneSteps x = new BoneSteps();
        due.is("LENGTH 1", x.bone(-1, 1, 0, 35), 0);
        due.is("LENGTH 100", x.bone(-1, 100, 0, 35), 1);
        due.is("about(0, 1)", x.about(0, 1), 1);
        due.is("about(1, 1)", x.about(1, 1), 100);
        due.is("THE END of LENGTH 100", x.end(1, 0), 100 * Scene.WHOLE);
        for (int length : Scene.outside(1, 100)) {
            due.is("LENGTH " + length, x.bone(-1, length, 0, 35), -2);
        }
    }

    private static void lowsAndSpreads(Due due) {
        BoneSteps x = new BoneSteps();
        due.is("SPREAD 0", x.bone(-1, 1, 35, 0), 0);
        due.is("SPREAD 35", x.bone(-1, 1, 0, 35), 1);
        due.is("about(0, 3)", x.about(0, 3), 0);
        due.is("about(1, 3)", x.about(1, 3), 35);
        due.is("LOW alone", x.turn(0, 35), 35);
        due.is("one before LOW", x.turn(0, 34), -3);
        due.is("one behind LOW", x.turn(0, 0), -3);
        for (int spread : Scene.outside(0, 35)) {
            due.is("SPREAD " + spread, x.bone(-1, 1, 0, spread), -2);
        }
    }

    private static void limitsGoRound(Due due) {
        for (int low = 0; low < 36; low++) {
            for (int spread = 0; spread < 36; spread++) {
                BoneSteps x = Scene.limited(low, spread);
                for (int n = 0; n < 36; n++) {
                    int t = (low + n) % 36;
                    int before = x.about(0, 4);
                    String call = "LOW " + low + ", SPREAD " + spread + ": turn(0, " + t + ")";
                    due.is(call, x.turn(0, t), n <= spread ? before : -3);
                }
            }
        }
    }

    private static void rowsOfFive(Due due) {
        BoneSteps x = Scene.row(5);
        due.is("a row of 5 is there", x.count(0), 5);
        due.is("the 6th", x.bone(4, 1, 0, 35), -2);
        due.is("a second one below the 4th", x.bone(3, 1, 0, 35), 5);
        due.is("one below that", x.bone(5, 1, 0, 35), -2);
        due.is("one without PARENT", x.bone(-1, 1, 0, 35), 6);
        due.is("BONES number by rows, not by all", x.bone(6, 1, 0, 35), 7);
    }

    /** Whatever the POSE is asked to become, BONE 0 stays within 34 .. 1 and BONE 1 within 10 .. 13. */
    private static void poseStaysWithin(Due due) {
        long[][] goals = {{-9, 0}, {9, 0}, {0, -9}, {0, 9}, {-9, 9}, {9, -9}};
        for (int ask = 0; ask < 24; ask++) {
            BoneSteps x = new BoneSteps();
            x.bone(-1, 2, 34, 3);
            x.bone(0, 2, 10, 3);
            x.frame(0);
            x.turn(0, 1);
            x.turn(1, 13);
            x.frame(0);
            long[] goal = goals[ask % 6];
            switch (ask / 6) {
                case 0: x.two(1, goal[0] * Scene.WHOLE, goal[1] * Scene.WHOLE); break;
                case 1: x.rounds(1, goal[0] * Scene.WHOLE, goal[1] * Scene.WHOLE, 3); break;
                case 2: x.add(0, ask % 2, 1 - ask % 2); break;
                default:
                    x.sheet(0, 2, 2);
                    x.put(0, 2, 0, 5 * ask);
                    x.put(0, 2, 1, 7 * ask);
                    x.pose(0, 0);
                    break;
            }
            due.isTrue("BONE 0 by ask " + ask, Math.floorMod(x.about(0, 4) - 34, 36) <= 3);
            due.isTrue("BONE 1 by ask " + ask, Math.floorMod(x.about(1, 4) - 10, 36) <= 3);
        }
    }

    private static void lowAtFirst(Due due) {
        for (int low = 0; low < 36; low++) {
            BoneSteps x = Scene.limited(low, 35 - low);
            due.is("about(0, 4) of LOW " + low, x.about(0, 4), low);
            x.frame(0);
            due.is("at(0, 0, 0) of LOW " + low, x.at(0, 0, 0), low);
        }
    }

    private static void intoLimits(Due due) {
        for (int low = 0; low < 36; low++) {
            for (int spread = 0; spread < 36; spread++) {
                BoneSteps x = Scene.limited(low, spread);
                x.sheet(0, 0, 1);
                for (int t = 0; t < 36; t++) {
                    x.put(0, 0, 0, t);
                    x.pose(0, 0);
                    String call = "LOW " + low + ", SPREAD " + spread + ": TURN " + t;
                    due.is(call, x.about(0, 4), nearest(low, spread, t));
                }
            }
        }
    }

    /** Steps down from t to the last one, or up to LOW, are counted over what is not within. */
    private static int nearest(int low, int spread, int t) {
        int past = Math.floorMod(t - low, 36);
        if (past <= spread) {
            return t;
        }
        return 36 - past <= past - spread ? low : (low + spread) % 36;
    }

    private static void ofLikeWaysLow(Due due) {
        int[][] rows = {
            // LOW, SPREAD, a TURN as near to both, the one before it, the one behind it
            {10, 10, 33, 20, 10}, {30, 10, 17, 4, 30}, {0, 34, 35, 34, 0}, {18, 0, 0, 18, 18}, {1, 32, 35, 33, 1}
        };
        for (int[] row : rows) {
            BoneSteps x = Scene.limited(row[0], row[1]);
            x.sheet(0, 0, 3);
            int last = (row[0] + row[1]) % 36;
            for (int n = 0; n < 3; n++) {
                x.put(0, 0, n, Math.floorMod(row[2] + n - 1, 36));
            }
            x.turn(0, last);
            x.pose(0, 1);
            due.is("LOW " + row[0] + ", SPREAD " + row[1] + ": between", x.about(0, 4), row[0]);
            x.pose(0, 0);
            due.is("one nearer the last", x.about(0, 4), row[3]);
            x.pose(0, 2);
            due.is("one nearer LOW", x.about(0, 4), row[4]);
        }
    }

    // ---- places

    private static void units(Due due) {
        BoneSteps x = Scene.oneBone();
        due.is("a whole", x.end(0, 0), 1160290625L);
        due.is("65 to the power of 5", x.end(0, 0), 65L * 65 * 65 * 65 * 65);
        due.is("nothing to the side", x.end(0, 1), 0);
        x.turn(0, 27);
        due.is("a whole down", x.end(0, 1), -1160290625L);
    }

    /** A row of 5 leaves no factor of 65 over: each number of UNITS is the exact one. */
    private static void directions(Due due) {
        for (int n = 0; n < 108; n++) {
            BoneSteps x = new BoneSteps();
            long directionX = 1;
            long directionY = 0;
            long sumX = 0;
            long sumY = 0;
            long unit = Scene.WHOLE;
            for (int b = 0; b < 5; b++) {
                int t = (n * (b + 1) + b * (n / 36)) % 36;
                x.bone(b - 1, 1 + 24 * b, t, 0);
                long c = cosine(t);
                long s = sine(t);
                long turned = directionX * c - directionY * s;
                directionY = directionX * s + directionY * c;
                directionX = turned;
                unit /= 65;
                sumX += (1 + 24 * b) * directionX * unit;
                sumY += (1 + 24 * b) * directionY * unit;
                due.is("row " + n + ", X of BONE " + b, x.end(b, 0), sumX);
                due.is("row " + n + ", Y of BONE " + b, x.end(b, 1), sumY);
            }
        }
    }

    private static long cosine(int t) {
        return t < 9 ? C[t] : t < 18 ? -S[t - 9] : t < 27 ? -C[t - 18] : S[t - 27];
    }

    private static long sine(int t) {
        return t < 9 ? S[t] : t < 18 ? C[t - 9] : t < 27 ? -S[t - 18] : -C[t - 27];
    }

    private static void endsFollow(Due due) {
        BoneSteps x = new BoneSteps();
        x.root(11, -13);
        for (int b = 0; b < 5; b++) {
            x.bone(b - 1, 100, b == 0 ? 9 : 0, 35);
            due.is("X of a row of " + (b + 1), x.end(b, 0), 11);
            due.is("Y of a row of " + (b + 1), x.end(b, 1), 100 * (b + 1) * Scene.WHOLE - 13);
        }
        due.is("a second one without PARENT", x.bone(-1, 2, 18, 35), 5);
        due.is("its X", x.end(5, 0), 11 - 2 * Scene.WHOLE);
        due.is("its Y", x.end(5, 1), -13);
        x.bone(1, 1, 0, 35);
        due.is("a branch begins at its PARENT", x.end(6, 1), 201 * Scene.WHOLE - 13);
        x.root(Scene.MOST, Scene.MOST);
        due.is("the farthest END", x.end(4, 1), Scene.MOST + 500 * Scene.WHOLE);
    }

    private static void rootBounds(Due due) {
        long most = 1000000000000L;
        long[][] places = {{most, most}, {-most, -most}, {most, -most}, {-most, most}, {0, 0}};
        BoneSteps x = Scene.oneBone();
        for (long[] place : places) {
            due.is("root(" + place[0] + ", " + place[1] + ")", x.root(place[0], place[1]), 1);
            due.is("its X", x.end(-1, 0), place[0]);
            due.is("its Y", x.end(-1, 1), place[1]);
        }
        due.is("X above", x.root(most + 1, 0), -2);
        due.is("X below", x.root(-most - 1, 0), -2);
        due.is("Y above", x.root(0, most + 1), -2);
        due.is("Y below", x.root(0, -most - 1), -2);
    }

    private static void rootAtFirst(Due due) {
        BoneSteps x = new BoneSteps();
        due.is("X", x.end(-1, 0), 0);
        due.is("Y", x.end(-1, 1), 0);
        x.bone(-1, 1, 9, 0);
        due.is("X of a BONE", x.end(0, 0), 0);
    }

    private static void greaterDifference(Due due) {
        BoneSteps x = Scene.oneBone();
        x.root(-Scene.WHOLE, 0);
        int[][] rows = {
            // a place's X and Y seen from THE END at 0, 0, and how FAR
            {0, 0, 0}, {3, 2, 3}, {2, 3, 3}, {-3, 2, 3}, {2, -3, 3}, {-2, -3, 3}, {-3, -2, 3}, {4, 4, 4}, {-4, 4, 4},
            {0, 1, 1}, {1, 0, 1}, {0, -1, 1}, {-1, 0, 1}
        };
        for (int[] row : rows) {
            due.is("from " + row[0] + ", " + row[1], x.far(0, row[0], row[1]), row[2]);
        }
    }

    /** Two BONES in a row and one beside them, posed, with two FRAMES and a SHEET to change the POSE by. */
    private static BoneSteps foot() {
        BoneSteps x = new BoneSteps();
        x.bone(-1, 3, 0, 35);
        x.bone(0, 2, 0, 35);
        x.bone(0, 1, 0, 35);
        x.frame(0);
        x.turn(0, 7);
        x.turn(1, 20);
        x.frame(0);
        x.root(100, -100);
        x.sheet(0, 0, 3);
        x.put(0, 0, 0, 11);
        x.put(0, 0, 1, 30);
        return x;
    }

    private static void whileLocked(Due due) {
        BoneSteps x = foot();
        x.turn(0, 8);
        due.is("before, THE ROOT stays", x.end(-1, 0), 100);
        x.lock(1);
        long before = x.end(1, 0);
        x.turn(0, 9);
        due.is("LOCKED, it stays", x.end(1, 0), before);
        x.lock(2);
        long second = x.end(2, 0);
        x.turn(0, 10);
        due.is("another LOCKED, that one stays", x.end(2, 0), second);
        due.isTrue("the first one moves", x.end(1, 0) != before);
        due.is("lock(NONE)", x.lock(-1), 2);
        long rootX = x.end(-1, 0);
        long rootY = x.end(-1, 1);
        x.turn(0, 0);
        x.turn(1, 0);
        due.is("afterwards THE ROOT stays where it came to", x.end(-1, 0), rootX);
        due.is("its Y, too", x.end(-1, 1), rootY);
        due.is("THE END moves", x.end(1, 0), rootX + 5 * Scene.WHOLE);
    }

    private static void lockedEndStays(Due due) {
        String[] names = {"turn", "turn of its PARENT", "show", "blend", "add", "pose", "turn of one beside it"};
        for (int n = 0; n < names.length; n++) {
            BoneSteps x = foot();
            x.lock(1);
            long endX = x.end(1, 0);
            long endY = x.end(1, 1);
            change(x, n);
            due.is("X by " + names[n], x.end(1, 0), endX);
            due.is("Y by " + names[n], x.end(1, 1), endY);
            due.isTrue("THE ROOT moves by " + names[n], n == 6 || x.end(-1, 0) != 100 && x.end(-1, 1) != -100);
            BoneSteps free = foot();
            change(free, n);
            for (int b = 0; b < 3; b++) {
                due.is("the TURN is as without", x.about(b, 4), free.about(b, 4));
                due.is("X of all moves as THE ROOT", x.end(b, 0) - x.end(-1, 0), free.end(b, 0) - 100);
                due.is("Y of all moves as THE ROOT", x.end(b, 1) - x.end(-1, 1), free.end(b, 1) + 100);
            }
        }
        beyondTheBounds(due);
    }

    private static void change(BoneSteps x, int n) {
        switch (n) {
            case 0: x.turn(1, 3); break;
            case 1: x.turn(0, 29); break;
            case 2: x.show(0, 0); break;
            case 3: x.blend(0, 0, 50, 1023); break;
            case 4: x.add(0, 1, 0); break;
            case 5: x.pose(0, 0); break;
            default: x.turn(2, 9); break;
        }
    }

    /** THE END stays even where THE ROOT must go beyond root()'s bounds. */
    private static void beyondTheBounds(Due due) {
        BoneSteps x = new BoneSteps();
        x.bone(-1, 100, 0, 35);
        x.root(Scene.MOST, -Scene.MOST);
        x.lock(0);
        x.turn(0, 18);
        due.is("THE ROOT beyond", x.end(-1, 0), Scene.MOST + 200 * Scene.WHOLE);
        due.is("THE END stays", x.end(0, 0), Scene.MOST + 100 * Scene.WHOLE);
        due.is("its Y stays", x.end(0, 1), -Scene.MOST);
    }

    // ---- promise 1

    private static void newWithoutBones(Due due) {
        BoneSteps x = new BoneSteps();
        due.is("count(0)", x.count(0), 0);
        due.is("about(0, 4)", x.about(0, 4), -2);
        due.is("turn(0, 0)", x.turn(0, 0), -2);
        due.is("end(0, 0)", x.end(0, 0), Due.BAD);
        due.is("far(0, 0, 0)", x.far(0, 0, 0), Due.BAD);
        due.is("two(0, 0, 0)", x.two(0, 0, 0), Due.BAD);
        due.is("rounds(0, 0, 0, 1)", x.rounds(0, 0, 0, 1), Due.BAD);
        due.is("lock(0)", x.lock(0), -2);
        due.is("frame(0)", x.frame(0), -3);
        due.is("digest()", x.digest(), 15699829L);
    }

    private static void newWithoutFrames(Due due) {
        BoneSteps x = new BoneSteps();
        due.is("count(1)", x.count(1), 0);
        due.is("live()", x.live(), 0);
        for (int clip = 0; clip < 6; clip++) {
            due.is("show(" + clip + ", 0)", x.show(clip, 0), -2);
            due.is("isLive(" + clip + ", 0)", x.isLive(clip, 0), -2);
            due.is("walk(" + clip + ", 0, ..)", x.walk(clip, 0, clip, 0), -2);
            due.is("pack(" + clip + ", 18)", x.pack(clip, 18), 0);
            due.is("thin(" + clip + ", 0)", x.thin(clip, 0), 0);
            due.is("clear(" + clip + ")", x.clear(clip), 0);
        }
    }

    private static void newWithoutLock(Due due) {
        BoneSteps x = new BoneSteps();
        due.is("count(2)", x.count(2), -1);
        due.is("root(1, 2)", x.root(1, 2), 1);
        due.is("lock(NONE)", x.lock(-1), -1);
    }

    private static void newWithoutSheets(Due due) {
        for (int s = 0; s < 4; s++) {
            BoneSteps x = new BoneSteps();
            due.is("count(6)", x.count(6), 0);
            due.is("lose(" + s + ")", x.lose(s), -11);
            due.is("put(" + s + ", 0, 0, 1)", x.put(s, 0, 0, 1), -11);
            due.is("pose(" + s + ", 0)", x.pose(s, 0), -11);
            due.is("write(" + s + ", 0)", x.write(s, 0), -11);
        }
    }

    // ---- promises 2 to 4

    private static void boneNumbers(Due due) {
        BoneSteps x = new BoneSteps();
        due.is("the first", x.bone(-1, 1, 0, 35), 0);
        due.is("refused", x.bone(-1, 0, 0, 35), -2);
        due.is("the next, as if none had been refused", x.bone(0, 1, 0, 35), 1);
        due.is("count(0)", x.count(0), 2);
        x.turn(0, 9);
        x.root(7, 0);
        x.bone(0, 1, 0, 35);
        due.is("it stands at its PARENT at once", x.end(2, 1), 2 * Scene.WHOLE);
        x.lock(2);
        x.bone(0, 5, 3, 35);
        due.is("a LOCKED BONE stays LOCKED", x.count(2), 2);
        due.is("it stays where it is", x.end(2, 1), 2 * Scene.WHOLE);
        due.is("so does THE ROOT", x.end(-1, 0), 7);
    }

    private static BoneSteps rowAndFull() {
        BoneSteps x = Scene.row(5);
        x.sheet(0, 0, 3);
        return x;
    }

    private static void boneBad(Due due) {
        Scene.refuses(due, "a row of 6", BoneSentences::rowAndFull, x -> x.bone(4, 1, 0, 35), -2);
        BoneSteps none = new BoneSteps();
        due.is("no BONE to be the PARENT", none.bone(0, 1, 0, 35), -2);
        Scene.bad(due, "PARENT", (x, v) -> x.bone(v, 1, 0, 35), Scene.outside(-1, 3));
        Scene.bad(due, "LENGTH", (x, v) -> x.bone(-1, v, 0, 35), Scene.outside(1, 100));
        Scene.bad(due, "LOW", (x, v) -> x.bone(-1, 1, v, 35), Scene.outside(0, 35));
        Scene.bad(due, "SPREAD", (x, v) -> x.bone(-1, 1, 0, v), Scene.outside(0, 35));
    }

    private static void boneNot(Due due) {
        Scene.refuses(due, "FRAMES are there", Scene::full, x -> x.bone(-1, 1, 0, 35), -3);
        for (int clip = 0; clip < 6; clip++) {
            BoneSteps x = Scene.oneBone();
            x.frame(clip);
            due.is("a FRAME in CLIP " + clip, x.bone(0, 1, 0, 35), -3);
            x.frame(clip);
            x.thin(clip, 18);
            due.is("thinned", x.bone(0, 1, 0, 35), -3);
            x.clear(clip);
            due.is("no FRAME any more", x.bone(0, 1, 0, 35), 1);
        }
        BoneSteps x = Scene.row(5);
        x.frame(0);
        due.is("a row of 6 is BAD first", x.bone(4, 1, 0, 35), -2);
    }

    private static void boneFull(Due due) {
        Scene.refuses(due, "the 11th", () -> Scene.fan(10), x -> x.bone(0, 1, 0, 35), -4);
        BoneSteps x = Scene.fan(9);
        due.is("the 10th", x.bone(8, 1, 0, 35), 9);
        due.is("the 11th, without PARENT", x.bone(-1, 1, 0, 35), -4);
        due.is("BAD first", x.bone(-1, 1, 0, 36), -2);
        due.is("PARENT 10 is BAD first", x.bone(10, 1, 0, 35), -2);
        x.frame(0);
        due.is("NOT first", x.bone(-1, 1, 0, 35), -3);
    }

    private static void aboutTells(Due due) {
        BoneSteps x = new BoneSteps();
        x.bone(-1, 100, 35, 0);
        x.bone(0, 1, 0, 35);
        x.turn(1, 35);
        int[][] want = {{-1, 100, 35, 0, 35}, {0, 1, 0, 35, 35}};
        for (int b = 0; b < 2; b++) {
            for (int what = 0; what < 5; what++) {
                due.is("about(" + b + ", " + what + ")", x.about(b, what), want[b][what]);
            }
        }
    }

    private static void aboutBad(Due due) {
        Scene.bad(due, "BONE", (x, v) -> x.about(v, 1), Scene.outside(0, 3));
        Scene.bad(due, "what", (x, v) -> x.about(0, v), Scene.outside(0, 4));
    }

    private static void turnTellsBefore(Due due) {
        BoneSteps x = Scene.limited(30, 10);
        due.is("from LOW to the last one", x.turn(0, 4), 30);
        due.is("to itself", x.turn(0, 4), 4);
        due.is("refused", x.turn(0, 5), -3);
        due.is("back to LOW", x.turn(0, 30), 4);
    }

    private static void turnBad(Due due) {
        Scene.bad(due, "BONE", (x, v) -> x.turn(v, 4), Scene.outside(0, 3));
        Scene.bad(due, "TURN", (x, v) -> x.turn(0, v), Scene.outside(0, 35));
        Scene.bad(due, "TURN, where not all are within", (x, v) -> x.turn(2, v), -32, 40, 36, -1);
    }

    private static void turnNot(Due due) {
        // BONE 2 of the scene has LIMITS 4 .. 24, BONE 1 30 .. 6.
        int[][] rows = {{2, 3}, {2, 25}, {1, 29}, {1, 7}};
        for (int[] row : rows) {
            String call = "turn(" + row[0] + ", " + row[1] + ")";
            Scene.refuses(due, call, Scene::full, x -> x.turn(row[0], row[1]), -3);
            Scene.refuses(due, call + " LOCKED", Scene::locked, x -> x.turn(row[0], row[1]), -3);
        }
        BoneSteps x = Scene.full();
        due.is("the last one", x.turn(1, 6), 3);
        due.is("LOW", x.turn(1, 30), 6);
    }

    // ---- promises 5 to 8

    private static void rootMoves(Due due) {
        BoneSteps x = new BoneSteps();
        due.is("without BONES", x.root(-1, 1), 1);
        due.is("X", x.end(-1, 0), -1);
        x.bone(-1, 1, 0, 35);
        due.is("again", x.root(2, -2), 1);
        due.is("X of a BONE", x.end(0, 0), Scene.WHOLE + 2);
        due.is("Y of a BONE", x.end(0, 1), -2);
        due.is("to the same place", x.root(2, -2), 1);
    }

    private static void rootBad(Due due) {
        Scene.badPlaces(due, "root", (x, placeX, placeY) -> x.root(placeX, placeY), -2);
        Scene.refuses(due, "LOCKED, BAD first", Scene::locked, x -> x.root(Scene.MOST + 1, 0), -2);
    }

    private static void rootNot(Due due) {
        Scene.refuses(due, "LOCKED", Scene::locked, x -> x.root(0, 0), -3);
        Scene.refuses(due, "to where it is", Scene::locked, x -> x.root(5, -6), -3);
        BoneSteps x = Scene.locked();
        x.lock(0);
        due.is("BONE 0 LOCKED", x.root(0, 0), -3);
        x.lock(-1);
        due.is("no more", x.root(0, 0), 1);
    }

    private static void endTells(Due due) {
        BoneSteps x = Scene.limited(1, 0);
        due.is("end(0, 0)", x.end(0, 0), 63 * Scene.PART);
        due.is("end(0, 1)", x.end(0, 1), 16 * Scene.PART);
        x.root(-Scene.MOST, 0);
        due.is("below 0", x.end(0, 0), 63 * Scene.PART - Scene.MOST);
    }

    private static void endOfNone(Due due) {
        BoneSteps x = Scene.full();
        due.is("end(NONE, 0)", x.end(BoneSteps.NONE, 0), 5);
        due.is("end(NONE, 1)", x.end(BoneSteps.NONE, 1), -6);
    }

    private static void endBad(Due due) {
        Scene.badAsLong(due, "BONE", (x, v) -> x.end(v, 0), Scene.outside(-1, 3));
        Scene.badAsLong(due, "what", (x, v) -> x.end(0, v), Scene.outside(0, 1));
        Scene.badAsLong(due, "what of THE ROOT", (x, v) -> x.end(-1, v), Scene.outside(0, 1));
    }

    private static void farthestPlaces(Due due) {
        BoneSteps x = Scene.oneBone();
        long most = Scene.MOST;
        due.is("to the left", x.far(0, -most, 0), most + Scene.WHOLE);
        due.is("to the right", x.far(0, most, 0), most - Scene.WHOLE);
        due.is("up", x.far(0, 0, most), most);
        due.is("down", x.far(0, 0, -most), most);
        x.root(most, 0);
        due.is("from edge to edge", x.far(0, -most, 0), 2 * most + Scene.WHOLE);
        due.is("at it", x.far(0, most, 0), Scene.WHOLE);
    }

    private static void farBad(Due due) {
        Scene.badAsLong(due, "BONE", (x, v) -> x.far(v, 0, 0), Scene.outside(0, 3));
        Scene.badPlaces(due, "far", (x, placeX, placeY) -> x.far(0, placeX, placeY), Due.BAD);
    }

    private static void lockTellsBefore(Due due) {
        BoneSteps x = Scene.row(2);
        due.is("none was", x.lock(1), -1);
        due.is("the same again", x.lock(1), 1);
        due.is("BONE 0", x.lock(0), 1);
        due.is("none is", x.lock(BoneSteps.NONE), 0);
        due.is("none was, none is", x.lock(BoneSteps.NONE), -1);
        due.is("count(2)", x.count(2), -1);
        due.is("LOCKING alone moves nothing", x.end(-1, 0), 0);
    }

    private static void lockBad(Due due) {
        Scene.bad(due, "BONE", (x, v) -> x.lock(v), Scene.outside(-1, 3));
        Scene.refuses(due, "LOCKED before", Scene::locked, x -> x.lock(4), -2);
        due.is("no BONES", new BoneSteps().lock(0), -2);
    }
}
