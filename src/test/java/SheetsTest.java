/** Promises 26 to 34: sheets with their findings, poses from and to them, counts and the digest. */
public final class SheetsTest {
    private static final int LEAST = Integer.MIN_VALUE;
    private static final Due due = new Due("SheetsTest");

    public static void main(String[] args) {
        sheet();
        lose();
        put();
        get();
        copy();
        copyRefused();
        pose();
        poseRefused();
        write();
        count();
        digest();
        due.end();
    }

    private static void sheet() {
        due.promise(26, "sheet");
        BoneSteps x = new BoneSteps();
        for (int s = 0; s < 4; s++) {
            due.is("60 items", x.sheet(s, s % 3, 60), 60);
        }
        due.is("0 items", x.sheet(0, 2, 0), 0);
        due.is("61 items", x.sheet(0, 2, 61), -2);
        due.is("SHEET -1", x.sheet(-1, 2, 1), -2);
        due.is("SHEET 4", x.sheet(4, 2, 1), -2);
        due.is("FORM -1", x.sheet(0, -1, 1), -2);
        due.is("FORM 3", x.sheet(0, 3, 1), -2);
        due.is("BAD is no FINDING", x.count(6), 0);
        due.is("-1 items", x.sheet(1, 0, -1), -15);
        due.is("count(6)", x.count(6), 5);
        due.is("-1 items, BAD first", x.sheet(1, 3, -1), -2);
        due.is("the SHEET stays", x.lose(1), 60);
        x.sheet(2, 1, 2);
        x.put(2, 1, 1, 7);
        x.sheet(2, 1, 3);
        due.is("a new row is 0", x.get(2, 1, 1), 0);
        x.put(2, 1, 2, 7);
        x.sheet(2, 0, 3);
        due.is("another FORM", x.get(2, 0, 2), 0);
        due.is("no more the old FORM", x.get(2, 1, 2), LEAST);
        x.lose(2);
        x.sheet(2, 0, 1);
        due.is("fewer items", x.get(2, 0, 2), LEAST);
    }

    private static void lose() {
        due.promise(27, "lose");
        BoneSteps x = new BoneSteps();
        due.is("LOST at first", x.lose(3), -11);
        due.is("count(6)", x.count(6), 1);
        x.sheet(3, 1, 5);
        x.sheet(0, 1, 0);
        due.is("5 items", x.lose(3), 5);
        due.is("0 items", x.lose(0), 0);
        due.is("again", x.lose(3), -11);
        due.is("SHEET 4", x.lose(4), -2);
        due.is("SHEET -1", x.lose(-1), -2);
    }

    private static void put() {
        due.promise(28, "put");
        BoneSteps x = new BoneSteps();
        due.is("LOST", x.put(0, 0, 0, 1), -11);
        x.sheet(0, 0, 2);
        x.sheet(1, 1, 2);
        x.sheet(2, 2, 2);
        int[] values = {0, 127, 128, -129, 255, 256, 32768, -32769, 65535, 65536, Integer.MAX_VALUE, LEAST};
        for (int v : values) {
            due.is("put a byte", x.put(0, 0, 1, v), 1);
            due.is("a byte of " + v, x.get(0, 0, 1), (byte) v);
            due.is("put a short", x.put(1, 1, 1, v), 1);
            due.is("a short of " + v, x.get(1, 1, 1), (short) v);
            due.is("put an int", x.put(2, 2, 1, v), 1);
            due.is("an int of " + v, x.get(2, 2, 1), v);
        }
        x.put(0, 0, 1, 3);
        due.is("CAST", x.put(0, 1, 1, 9), -13);
        due.is("CAST before INDEX", x.put(0, 2, 2, 9), -13);
        due.is("count(6)", x.count(6), 3);
        due.is("INDEX", x.put(0, 0, 2, 9), -12);
        due.is("count(6)", x.count(6), 2);
        due.is("INDEX -1", x.put(0, 0, -1, 9), -12);
        due.is("NULL before CAST", x.put(3, 2, 99, 9), -11);
        due.is("FORM 3", x.put(0, 3, 1, 9), -2);
        due.is("FORM -1", x.put(3, -1, 1, 9), -2);
        due.is("SHEET 4", x.put(4, 0, 1, 9), -2);
        due.is("SHEET -1", x.put(-1, 0, 1, 9), -2);
        due.is("count(6) is not of BAD", x.count(6), 1);
        due.is("nothing changed", x.get(0, 0, 1), 3);
        due.is("the other item", x.get(0, 0, 0), 0);
        x.sheet(0, 0, 0);
        due.is("no items", x.put(0, 0, 0, 9), -12);
    }

    private static void get() {
        due.promise(29, "get");
        BoneSteps x = new BoneSteps();
        due.is("BAD", x.get(4, 0, 0), LEAST);
        due.is("BAD", x.get(-1, 0, 0), LEAST);
        due.is("BAD", x.get(0, 3, 0), LEAST);
        due.is("BAD", x.get(0, -1, 0), LEAST);
        due.is("count(6)", x.count(6), 0);
        due.is("NULL", x.get(0, 0, 0), LEAST);
        due.is("count(6)", x.count(6), 1);
        x.sheet(0, 1, 3);
        due.is("0 at first", x.get(0, 1, 2), 0);
        due.is("INDEX", x.get(0, 1, 3), LEAST);
        due.is("count(6)", x.count(6), 2);
        due.is("CAST", x.get(0, 2, 3), LEAST);
        due.is("count(6)", x.count(6), 3);
        due.is("INDEX", x.get(0, 1, -1), LEAST);
        due.is("count(6)", x.count(6), 2);
        x.put(0, 1, 0, -5);
        due.is("get(0, 1, 0)", x.get(0, 1, 0), -5);
        due.is("count(6) stays", x.count(6), 2);
    }

    private static void itemsAre(String call, BoneSteps x, int s, int form, int... want) {
        for (int i = 0; i < want.length; i++) {
            due.is(call + ", item " + i, x.get(s, form, i), want[i]);
        }
    }

    private static void copy() {
        due.promise(30, "copy");
        BoneSteps x = Scene.counting(1, 6);
        x.sheet(3, 1, 4);
        due.is("to another", x.copy(0, 1, 3, 0, 3), 1);
        itemsAre("to another", x, 3, 1, 2, 3, 4, 0);
        itemsAre("the first stays", x, 0, 1, 1, 2, 3, 4, 5, 6);
        due.is("up, as they were", x.copy(0, 0, 0, 1, 5), 1);
        itemsAre("up, as they were", x, 0, 1, 1, 1, 2, 3, 4, 5);
        x = Scene.counting(2, 6);
        due.is("down, as they were", x.copy(0, 1, 0, 0, 5), 1);
        itemsAre("down, as they were", x, 0, 2, 2, 3, 4, 5, 6, 6);
        due.is("none at the end", x.copy(0, 6, 0, 6, 0), 1);
        due.is("none at all", x.copy(0, 0, 0, 0, 0), 1);
        due.is("all", x.copy(0, 0, 0, 0, 6), 1);
        itemsAre("all", x, 0, 2, 2, 3, 4, 5, 6, 6);
    }

    private static void copyRefused() {
        BoneSteps x = Scene.counting(0, 4);
        x.sheet(1, 1, 4);
        x.sheet(2, 0, 2);
        due.is("SHEET 4", x.copy(4, 0, 0, 0, 1), -2);
        due.is("SHEET -1", x.copy(-1, 0, 3, 0, 1), -2);
        due.is("to SHEET 4", x.copy(3, 0, 4, 0, 1), -2);
        due.is("to SHEET -1", x.copy(0, 0, -1, 0, 1), -2);
        due.is("no FINDING", x.count(6), 0);
        due.is("NULL of s", x.copy(3, 0, 0, 0, 1), -11);
        due.is("NULL of t", x.copy(0, 0, 3, 0, 1), -11);
        due.is("STORE", x.copy(0, 0, 1, 0, 1), -14);
        due.is("count(6)", x.count(6), 4);
        due.is("STORE before INDEX", x.copy(0, -1, 1, 9, 99), -14);
        due.is("STORE of none", x.copy(0, 0, 1, 0, 0), -14);
        due.is("i -1", x.copy(0, -1, 2, 0, 1), -12);
        due.is("count(6)", x.count(6), 2);
        due.is("j -1", x.copy(0, 0, 2, -1, 1), -12);
        due.is("n -1", x.copy(0, 1, 2, 1, -1), -12);
        due.is("not so many in s", x.copy(2, 0, 0, 0, 3), -12);
        due.is("not so many in t", x.copy(0, 0, 2, 0, 3), -12);
        due.is("not so many from i", x.copy(0, 3, 2, 0, 2), -12);
        due.is("not so many from j", x.copy(0, 0, 2, 1, 2), -12);
        due.is("i past the end", x.copy(0, 5, 2, 0, 0), -12);
        due.is("j past the end", x.copy(0, 0, 2, 3, 0), -12);
        due.is("the greatest ints", x.copy(0, Integer.MAX_VALUE, 2, 0, Integer.MAX_VALUE), -12);
        due.is("the greatest ints", x.copy(0, 1, 2, 1, Integer.MAX_VALUE), -12);
        due.is("the least ints", x.copy(0, LEAST, 2, LEAST, LEAST), -12);
        itemsAre("nothing changed", x, 0, 0, 1, 2, 3, 4);
        itemsAre("nothing changed", x, 2, 0, 0, 0);
    }

    private static void pose() {
        due.promise(31, "pose");
        BoneSteps x = new BoneSteps();
        x.sheet(0, 2, 8);
        due.is("no BONES", x.pose(0, 8), 0);
        x.bone(-1, 1, 0, 35);
        x.bone(0, 1, 10, 4);
        x.bone(0, 1, 30, 10);
        int[][] rows = {
            // three items, three TURNS, how many were not within
            {0, 10, 30, 0, 10, 30, 0},
            {35, 14, 4, 35, 14, 4, 0},
            {36, 15, 5, 0, 14, 4, 2},
            {-1, 9, 29, 35, 10, 30, 2},
            {-36, 30, 17, 0, 10, 30, 2},
            {LEAST, 29, 16, 16, 14, 4, 2},
            {Integer.MAX_VALUE, 31, 18, 19, 10, 30, 2},
            {73, 84, -36, 1, 12, 0, 0}
        };
        for (int[] row : rows) {
            for (int b = 0; b < 3; b++) {
                x.put(0, 2, 4 + b, row[b]);
            }
            String call = "items " + row[0] + " " + row[1] + " " + row[2];
            due.is(call, x.pose(0, 4), row[6]);
            for (int b = 0; b < 3; b++) {
                due.is(call + ", BONE " + b, x.about(b, 4), row[3 + b]);
            }
        }
        due.is("THE END follows", x.end(0, 1), 16L * 65 * 65 * 65 * 65);
        x.sheet(1, 0, 3);
        x.put(1, 0, 0, 200);
        due.is("of bytes", x.pose(1, 0), 1);
        due.is("-56 modulo 36", x.about(0, 4), 16);
    }

    private static void poseRefused() {
        BoneSteps x = new BoneSteps();
        due.is("LOST", x.pose(0, 0), -11);
        x.sheet(0, 0, 4);
        due.is("no BONES, past the end", x.pose(0, 5), -12);
        due.is("no BONES, -1", x.pose(0, -1), -12);
        x.bone(-1, 1, 0, 35);
        x.bone(-1, 1, 0, 35);
        x.turn(0, 5);
        due.is("not so many", x.pose(0, 3), -12);
        due.is("-1", x.pose(0, -1), -12);
        due.is("the greatest int", x.pose(0, Integer.MAX_VALUE), -12);
        due.is("the least int", x.pose(0, LEAST), -12);
        due.is("count(6)", x.count(6), 2);
        due.is("SHEET 4", x.pose(4, 0), -2);
        due.is("SHEET -1", x.pose(-1, 0), -2);
        due.is("nothing changed", x.about(0, 4), 5);
        due.is("just so many", x.pose(0, 2), 0);
    }

    private static void write() {
        due.promise(32, "write");
        BoneSteps x = new BoneSteps();
        due.is("LOST", x.write(0, 0), -11);
        x.sheet(0, 0, 4);
        due.is("no BONES", x.write(0, 4), 0);
        due.is("no BONES, past the end", x.write(0, 5), -12);
        x.bone(-1, 1, 35, 35);
        x.bone(-1, 1, 7, 35);
        for (int form = 0; form < 3; form++) {
            x.sheet(form, form, 4);
            due.is("two BONES", x.write(form, 1), 2);
            itemsAre("two BONES", x, form, form, 0, 35, 7, 0);
            due.is("at the end", x.write(form, 2), 2);
            itemsAre("at the end", x, form, form, 0, 35, 35, 7);
        }
        due.is("not so many", x.write(0, 3), -12);
        due.is("-1", x.write(0, -1), -12);
        due.is("the greatest int", x.write(0, Integer.MAX_VALUE), -12);
        due.is("SHEET 4", x.write(4, 0), -2);
        due.is("SHEET -1", x.write(-1, 0), -2);
        itemsAre("nothing changed", x, 0, 0, 0, 35, 35, 7);
    }

    private static void count() {
        due.promise(33, "count");
        BoneSteps x = new BoneSteps();
        x.bone(-1, 1, 0, 35);
        x.bone(-1, 1, 0, 35);
        x.frame(0);
        x.frame(0);
        x.frame(5);
        x.lock(1);
        x.join(7);
        x.pack(0, 0);
        x.walk(0, 0, 5, 0);
        x.lose(0);
        int[] want = {2, 3, 1, 7, 2, 2, 1};
        for (int what = 0; what < want.length; what++) {
            due.is("count(" + what + ")", x.count(what), want[what]);
        }
        due.is("count(7)", x.count(7), -2);
        due.is("count(-1)", x.count(-1), -2);
    }

    private static void digest() {
        due.promise(34, "digest");
        BoneSteps x = new BoneSteps();
        x.root(5, 6);
        due.is("THE ROOT alone is not in it", x.digest(), 15699829L);
        x.bone(-1, 2, 3, 35);
        x.bone(0, 1, 4, 35);
        x.frame(5);
        x.turn(1, 8);
        x.frame(2);
        x.frame(5);
        x.lock(1);
        x.join(50);
        long[] parts = {
            2, 3, 1, 50,
            3, x.end(0, 0), x.end(0, 1), 8, x.end(1, 0), x.end(1, 1),
            3, 8, 3, 4, 3, 8
        };
        long h = 17;
        for (long part : parts) {
            h = 31 * h + part;
        }
        due.is("digest()", x.digest(), h);
        x.sheet(0, 0, 4);
        x.pack(5, 0);
        x.walk(5, 0, 5, 1);
        due.is("SHEETS, KEYS and walks are not in it", x.digest(), h);
        x.clear(5);
        x.clear(2);
        x.frame(0);
        x.show(0, 0);
        long before = x.digest();
        x.clear(0);
        due.is("CLIP 0 is in it", before == x.digest() ? 1 : 0, 0);
        x.turn(1, 9);
        x.frame(0);
        x.turn(1, 8);
        due.is("TURNS of CLIP 0 are in it", x.digest(), before + 1);
    }
}
