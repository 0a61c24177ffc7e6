/** Promises 9 and 10: goals by TWO and by ROUNDS. */
public final class GoalsTest {
    private static final long WHOLE = 65L * 65 * 65 * 65 * 65;
    private static final long MOST = 1000000000000L;
    private static final Due due = new Due("GoalsTest");

    public static void main(String[] args) {
        twoAlone();
        twoWithParent();
        twoTies();
        twoRefused();
        twoInRow();
        roundsOrder();
        roundsTies();
        roundsRefused();
        roundsNeverFarther();
        due.end();
    }

    private static void twoAlone() {
        due.promise(9, "two");
        BoneSteps x = new BoneSteps();
        x.bone(-1, 10, 0, 35);
        due.is("up", x.two(0, 0, 10 * WHOLE), 0);
        due.is("its TURN", x.about(0, 4), 9);
        due.is("down", x.two(0, 0, -10 * WHOLE), 0);
        due.is("its TURN", x.about(0, 4), 27);
        due.is("the farthest place", x.two(0, 0, MOST), MOST - 10 * WHOLE);
        x = new BoneSteps();
        x.bone(-1, 10, 30, 8);
        due.is("within LIMITS", x.two(0, -MOST, 0), MOST + 10 * 33 * (WHOLE / 65));
        due.is("the end of LIMITS", x.about(0, 4), 30);
    }

    private static void twoWithParent() {
        BoneSteps x = new BoneSteps();
        x.bone(-1, 10, 0, 35);
        x.bone(0, 10, 0, 35);
        due.is("stretched", x.two(1, 0, 20 * WHOLE), 0);
        due.is("the PARENT", x.about(0, 4), 9);
        due.is("itself", x.about(1, 4), 0);
        due.is("of two ways the PARENT's least", x.two(1, 10 * WHOLE, 10 * WHOLE), 0);
        due.is("the PARENT", x.about(0, 4), 0);
        due.is("itself", x.about(1, 4), 9);
        due.is("folded", x.two(1, 0, 0), 0);
        due.is("the PARENT", x.about(0, 4), 0);
        due.is("itself", x.about(1, 4), 18);
        x.root(WHOLE, -WHOLE);
        due.is("from another ROOT", x.two(1, WHOLE, 19 * WHOLE), 0);
        due.is("the PARENT", x.about(0, 4), 9);
        due.is("far is told then", x.far(1, WHOLE, 19 * WHOLE), 0);
    }

    private static void twoTies() {
        BoneSteps x = new BoneSteps();
        x.bone(-1, 1, 0, 35);
        x.turn(0, 18);
        // Far to the right of it all of TURN 0's neighbours differ by X alone: TURN 0 is the one.
        due.is("by X alone", x.two(0, MOST, 0), MOST - WHOLE);
        due.is("its TURN", x.about(0, 4), 0);
        x = new BoneSteps();
        x.bone(-1, 1, 17, 2);
        x.turn(0, 19);
        // 17 and 19 are alike far by X, and 18 is farther.
        due.is("of like ones", x.two(0, MOST, 0), MOST + 63 * (WHOLE / 65));
        due.is("the least number, not its own", x.about(0, 4), 17);
        x = new BoneSteps();
        x.bone(-1, 1, 35, 2);
        // 35 and 1 are alike far from the left, 0 is the farthest: the least number is not LOW.
        due.is("LIMITS past 35", x.two(0, -MOST, 0), MOST + 63 * (WHOLE / 65));
        due.is("the least number, not LOW", x.about(0, 4), 1);
        // TURNS 0 and 1 end at 65, 0 and 63, 16: alike far from 64, 8.
        due.is("0 and 1", x.two(0, 64 * (WHOLE / 65), 8 * (WHOLE / 65)), 8 * (WHOLE / 65));
        due.is("the least number", x.about(0, 4), 0);
        x = new BoneSteps();
        x.bone(-1, 1, 5, 0);
        due.is("a SPREAD of 0", x.two(0, WHOLE, 0), 52 * (WHOLE / 65));
        due.is("LOW alone", x.about(0, 4), 5);
    }

    private static void twoRefused() {
        BoneSteps x = new BoneSteps();
        due.is("no BONE", x.two(0, 0, 0), Due.BAD);
        x.bone(-1, 1, 0, 35);
        due.is("two(-1, 0, 0)", x.two(-1, 0, 0), Due.BAD);
        due.is("two(1, 0, 0)", x.two(1, 0, 0), Due.BAD);
        due.is("X above", x.two(0, MOST + 1, 0), Due.BAD);
        due.is("X below", x.two(0, -MOST - 1, 0), Due.BAD);
        due.is("Y above", x.two(0, 0, MOST + 1), Due.BAD);
        due.is("Y below", x.two(0, 0, -MOST - 1), Due.BAD);
        x.lock(0);
        due.is("LOCKED", x.two(0, -MOST, 0), Due.NOT);
        due.is("LOCKED, BAD first", x.two(1, -MOST, 0), Due.BAD);
        due.is("nothing changed", x.about(0, 4), 0);
    }

    /** BONES above the PARENT keep their TURNS. */
    private static void twoInRow() {
        BoneSteps x = new BoneSteps();
        x.bone(-1, 1, 9, 35);
        x.bone(0, 2, 0, 35);
        x.bone(1, 2, 0, 35);
        x.bone(1, 7, 0, 35);
        due.is("a row of 3", x.two(2, 4 * WHOLE, WHOLE), 0);
        due.is("the first keeps", x.about(0, 4), 9);
        due.is("the PARENT", x.about(1, 4), 27);
        due.is("itself", x.about(2, 4), 0);
        due.is("a branch is carried along", x.end(3, 0), 9 * WHOLE);
        due.is("its TURN stays", x.about(3, 4), 0);
    }

    private static void roundsOrder() {
        due.promise(10, "rounds");
        BoneSteps x = new BoneSteps();
        x.bone(-1, 10, 0, 35);
        x.bone(0, 5, 0, 35);
        // The tip goes first: up is as near as it can come; then its PARENT swings.
        due.is("one round", x.rounds(1, 0, 15 * WHOLE, 1), x.far(1, 0, 15 * WHOLE));
        int parent = x.about(0, 4);
        int tip = x.about(1, 4);
        due.is("the PARENT swung after the tip", parent != 0 && tip != 0 ? 1 : 0, 1);
        due.is("as by hand", byHand(10, 5, 15 * WHOLE, parent, tip), 1);
        BoneSteps y = new BoneSteps();
        y.bone(-1, 10, 0, 35);
        y.bone(0, 5, 0, 35);
        for (int n = 0; n < 4; n++) {
            y.rounds(1, 3 * WHOLE, 11 * WHOLE, 1);
        }
        BoneSteps z = new BoneSteps();
        z.bone(-1, 10, 0, 35);
        z.bone(0, 5, 0, 35);
        z.rounds(1, 3 * WHOLE, 11 * WHOLE, 4);
        due.is("4 rounds are 4 times one", z.digest(), y.digest());
        due.is("20 rounds", z.rounds(1, 3 * WHOLE, 11 * WHOLE, 20), z.far(1, 3 * WHOLE, 11 * WHOLE));
    }

    /** One round for two BONES from TURNS 0, 0, by trying each TURN with turn() and far(). */
    private static int byHand(int length, int second, long goalY, int parent, int tip) {
        BoneSteps x = new BoneSteps();
        x.bone(-1, length, 0, 35);
        x.bone(0, second, 0, 35);
        for (int b = 1; b >= 0; b--) {
            int best = x.about(b, 4);
            long least = x.far(1, 0, goalY);
            for (int t = 0; t < 36; t++) {
                x.turn(b, t);
                if (x.far(1, 0, goalY) < least) {
                    least = x.far(1, 0, goalY);
                    best = t;
                }
            }
            x.turn(b, best);
        }
        return x.about(0, 4) == parent && x.about(1, 4) == tip ? 1 : 0;
    }

    private static void roundsTies() {
        BoneSteps x = new BoneSteps();
        x.bone(-1, 1, 17, 2);
        x.turn(0, 19);
        due.is("its own is as good", x.rounds(0, MOST, 0, 3), MOST + 63 * (WHOLE / 65));
        due.is("its own stays", x.about(0, 4), 19);
        x.turn(0, 18);
        due.is("its own is worse", x.rounds(0, MOST, 0, 1), MOST + 63 * (WHOLE / 65));
        due.is("the least number", x.about(0, 4), 17);
        x = new BoneSteps();
        x.bone(-1, 1, 35, 2);
        x.turn(0, 0);
        due.is("LIMITS past 35", x.rounds(0, -MOST, 0, 1), MOST + 63 * (WHOLE / 65));
        due.is("the least number, not LOW", x.about(0, 4), 1);
        x.turn(0, 35);
        due.is("0 and 1", x.rounds(0, 64 * (WHOLE / 65), 8 * (WHOLE / 65), 1), 8 * (WHOLE / 65));
        due.is("the least number", x.about(0, 4), 0);
        x.turn(0, 1);
        due.is("its own is as good", x.rounds(0, 64 * (WHOLE / 65), 8 * (WHOLE / 65), 1), 8 * (WHOLE / 65));
        due.is("its own", x.about(0, 4), 1);
    }

    private static void roundsRefused() {
        BoneSteps x = new BoneSteps();
        due.is("no BONE", x.rounds(0, 0, 0, 1), Due.BAD);
        x.bone(-1, 1, 0, 35);
        due.is("BONE -1", x.rounds(-1, 0, 0, 1), Due.BAD);
        due.is("0 rounds", x.rounds(0, -MOST, 0, 0), Due.BAD);
        due.is("-1 rounds", x.rounds(0, -MOST, 0, -1), Due.BAD);
        due.is("21 rounds", x.rounds(0, -MOST, 0, 21), Due.BAD);
        due.is("X above", x.rounds(0, MOST + 1, 0, 1), Due.BAD);
        due.is("Y below", x.rounds(0, 0, -MOST - 1, 1), Due.BAD);
        x.lock(0);
        due.is("LOCKED", x.rounds(0, -MOST, 0, 1), Due.NOT);
        due.is("LOCKED, BAD first", x.rounds(0, -MOST, 0, 0), Due.BAD);
        due.is("nothing changed", x.about(0, 4), 0);
    }

    private static void roundsNeverFarther() {
        Numbers numbers = new Numbers(11);
        for (int n = 0; n < 60; n++) {
            BoneSteps x = new BoneSteps();
            for (int b = 0; b < 5; b++) {
                x.bone(b - 1, 1 + numbers.below(100), numbers.below(36), numbers.below(36));
            }
            for (int k = 0; k < 6; k++) {
                long goalX = numbers.within(400 * WHOLE);
                long goalY = numbers.within(400 * WHOLE);
                int b = numbers.below(5);
                long before = x.far(b, goalX, goalY);
                long after = k % 2 == 0 ? x.rounds(b, goalX, goalY, 2) : x.two(b, goalX, goalY);
                due.is("never farther", after <= before ? 1 : 0, 1);
                due.is("as far tells", x.far(b, goalX, goalY), after);
            }
        }
    }
}
