import java.math.BigInteger;
import java.util.ArrayList;
import java.util.List;
import java.util.function.ToLongFunction;

/** Sentences on SHEETS, FINDINGS and refusals: of the terms, and promises 26 to 34. */
final class SheetSentences {
    private static final int LEAST = Scene.LEAST_INT;
    private static final int MOST_INT = Integer.MAX_VALUE;
    private static final int NULL = -11, INDEX = -12, CAST = -13, STORE = -14, SIZE = -15;

    static void tell(Sentences all) {
        tellTerms(all);
        tellRefusals(all);
        tellPromises26To29(all);
        tellPromises30To32(all);
        tellPromises33And34(all);
    }

    private static void tellTerms(Sentences all) {
        all.holds(0, "SHEETS 0 .. 3 are LOST (at first)", SheetSentences::fourSheets);
        all.holds(0, "or a row of a FORM: 0 bytes, 1 shorts, 2 ints,", SheetSentences::forms);
        all.holds(0, "of 0 to 60 items", SheetSentences::sixtyItems);
        all.holds(0, "(0 at first).", SheetSentences::itemsAtFirst);
        all.holds(0, "FINDINGS (answers -10 less the number;", SheetSentences::findingNumbers);
        all.holds(0, "they change nothing but count() 6):", SheetSentences::findingsChangeCount6);
        all.holds(0, "1 NULL: the SHEET is LOST;", SheetSentences::findNull);
        all.holds(0, "2 INDEX: there is no such item;", SheetSentences::findIndex);
        all.holds(0, "3 CAST: it has another FORM;", SheetSentences::findCast);
        all.holds(0, "4 STORE: unlike FORMS;", SheetSentences::findStore);
        all.holds(0, "5 SIZE: below 0.", SheetSentences::findSize);
    }

    private static void tellRefusals(Sentences all) {
        all.holds(0, "Refusals, the first that fits: BAD -2 (a number not as told, no such thing), NOT -3, FULL -4 "
            + "(as told), FINDINGS.", SheetSentences::firstThatFits);
        all.holds(0, "They change nothing else.", SheetSentences::refusalsChangeNothing);
        all.holds(0, "Where the answer is a long, a refusal -x is the least long and x more.",
            SheetSentences::refusalsAsLongs);
        all.holds(0, "An object is used for at most 512 calls after it has been made;", SheetSentences::call512);
        all.namesNoBoundary(0, "what later calls answer is free.");
        all.namesNoBoundary(0, "Bones and steps: a tree of bones posed by exact turns within limits, places told "
            + "without rounding; goals for two bones and for whole rows of them, never farther; poses blended, added "
            + "and taken back; a foot that stays while all else moves; clips cut down to few frames within a told "
            + "miss; walks over clips by their likeness, dead ends pruned.");
    }

    private static void tellPromises26To29(Sentences all) {
        all.holds(26, "A SHEET is a new row of a FORM with n items: n.", SheetSentences::sheetTells);
        all.holds(26, "BAD: SHEET, FORM, above 60;", SheetSentences::sheetBad);
        all.holds(26, "SIZE.", SheetSentences::sheetSize);
        all.holds(27, "It is LOST: how many items it had.", SheetSentences::loseTells);
        all.holds(27, "BAD;", SheetSentences::loseBad);
        all.holds(27, "NULL.", SheetSentences::loseNull);
        all.holds(28, "Item i, treated as of a FORM, becomes v (the lowest bits that it has): 1.",
            SheetSentences::lowestBits);
        all.holds(28, "BAD;", SheetSentences::putBad);
        all.holds(28, "NULL;", SheetSentences::putNull);
        all.holds(28, "CAST;", SheetSentences::putCast);
        all.holds(28, "INDEX.", SheetSentences::putIndex);
        all.holds(29, "Item i of it.", SheetSentences::getTells);
        all.holds(29, "BAD: the least int;", SheetSentences::getBad);
        all.holds(29, "so are NULL, CAST, INDEX (count() 6 tells).", SheetSentences::getFindings);
    }

    private static void tellPromises30To32(Sentences all) {
        all.holds(30, "n items of SHEET s, from i on, come to SHEET t", SheetSentences::copyTells);
        all.holds(30, "(perhaps s, as they were), from j on: 1.", SheetSentences::copyWithinOne);
        all.holds(30, "BAD: the SHEETS;", SheetSentences::copyBad);
        all.holds(30, "NULL: s, t;", SheetSentences::copyNull);
        all.holds(30, "STORE;", SheetSentences::copyStore);
        all.holds(30, "INDEX: below 0, not so many.", SheetSentences::copyIndex);
        all.holds(31, "TURNS of BONES by the items of a SHEET from item i on, one for each BONE,",
            SheetSentences::poseFromItem);
        all.holds(31, "INTO LIMITS (an item modulo 36, 0 to 35):", SheetSentences::itemsModulo36);
        all.holds(31, "how many were not within.", SheetSentences::poseCounts);
        all.holds(31, "BAD;", SheetSentences::poseBad);
        all.holds(31, "NULL;", SheetSentences::poseNull);
        all.holds(31, "INDEX: it has not so many.", SheetSentences::poseIndex);
        all.holds(32, "TURNS of all BONES come to a SHEET from item i on: how many.", SheetSentences::writeTells);
        all.holds(32, "BAD;", SheetSentences::writeBad);
        all.holds(32, "NULL;", SheetSentences::writeNull);
        all.holds(32, "INDEX: it has not so many.", SheetSentences::writeIndex);
    }

    private static void tellPromises33And34(Sentences all) {
        all.holds(33, "0 BONES,", SheetSentences::countBones);
        all.holds(33, "1 FRAMES of all CLIPS,", SheetSentences::countFrames);
        all.holds(33, "2 the BONE that is LOCKED (NONE),", SheetSentences::countLocked);
        all.holds(33, "3 JOIN,", SheetSentences::countJoin);
        all.holds(33, "4 KEYS of the latest pack() or thin() (0 before any),", SheetSentences::countKeys);
        all.holds(33, "5 the COST of the latest walk() (NONE before any),", SheetSentences::countCost);
        all.holds(33, "6 the number of the latest FINDING (0 before any).", SheetSentences::countFinding);
        all.holds(33, "BAD.", SheetSentences::countBad);
        all.holds(34, "h is 17; h becomes 31 h and each of: count() 0 to 3,", SheetSentences::digestOfNothing);
        all.holds(34, "of each BONE its TURN, THE END's X, Y, of each CLIP's FRAMES TURNS;", SheetSentences::digestOfAll);
        all.holds(34, "as longs that wrap.", SheetSentences::digestWraps);
    }

    private static void itemsAre(Due due, String call, BoneSteps x, int s, int form, int... want) {
        for (int i = 0; i < want.length; i++) {
            due.is(call + ", item " + i, x.get(s, form, i), want[i]);
        }
        due.is(call + ", no item more", x.get(s, form, want.length), LEAST);
    }

    private static void refuses(Due due, String call, ToLongFunction<BoneSteps> ask, int answer) {
        Scene.refuses(due, call, Scene::full, ask, answer);
    }

    // ---- terms

    private static void fourSheets(Due due) {
        BoneSteps x = new BoneSteps();
        for (int s = 0; s < 4; s++) {
            due.is("SHEET " + s + " is LOST", x.lose(s), NULL);
            due.is("SHEET " + s + " becomes a row", x.sheet(s, 0, 1), 1);
            due.is("SHEET " + s + " is there", x.get(s, 0, 0), 0);
        }
        due.is("SHEET -1", x.lose(-1), -2);
        due.is("SHEET 4", x.lose(4), -2);
    }

    private static void forms(Due due) {
        int[] least = {-128, -32768, LEAST};
        int[] most = {127, 32767, MOST_INT};
        BoneSteps x = new BoneSteps();
        for (int form = 0; form < 3; form++) {
            due.is("FORM " + form, x.sheet(0, form, 2), 2);
            x.put(0, form, 0, least[form]);
            x.put(0, form, 1, most[form]);
            due.is("the least item of FORM " + form, x.get(0, form, 0), least[form]);
            due.is("the greatest item of FORM " + form, x.get(0, form, 1), most[form]);
            x.put(0, form, 0, most[form] + 1);
            due.is("one more wraps round", x.get(0, form, 0), least[form]);
        }
        due.is("FORM -1", x.sheet(0, -1, 2), -2);
        due.is("FORM 3", x.sheet(0, 3, 2), -2);
    }

    private static void sixtyItems(Due due) {
        BoneSteps x = new BoneSteps();
        due.is("0 items", x.sheet(0, 2, 0), 0);
        due.is("no item 0", x.put(0, 2, 0, 1), INDEX);
        due.is("60 items", x.sheet(0, 2, 60), 60);
        due.is("item 59", x.put(0, 2, 59, 1), 1);
        due.is("no item 60", x.put(0, 2, 60, 1), INDEX);
        due.is("61 items", x.sheet(0, 2, 61), -2);
        due.is("60 items still", x.lose(0), 60);
    }

    private static void itemsAtFirst(Due due) {
        for (int form = 0; form < 3; form++) {
            BoneSteps x = new BoneSteps();
            x.sheet(1, form, 60);
            for (int i = 0; i < 60; i++) {
                due.is("item " + i, x.get(1, form, i), 0);
                x.put(1, form, i, -1);
            }
            x.sheet(1, form, 60);
            for (int i = 0; i < 60; i += 59) {
                due.is("item " + i + " of a new row", x.get(1, form, i), 0);
            }
            x.put(1, form, 59, -1);
            x.lose(1);
            x.sheet(1, form, 60);
            due.is("item 59 of a row behind a LOST one", x.get(1, form, 59), 0);
        }
    }

    private static void findingNumbers(Due due) {
        BoneSteps x = Scene.full();
        due.is("NULL", x.lose(3), -11);
        due.is("count(6)", x.count(6), 1);
        due.is("INDEX", x.put(0, 0, 3, 1), -12);
        due.is("count(6)", x.count(6), 2);
        due.is("CAST", x.put(0, 1, 0, 1), -13);
        due.is("count(6)", x.count(6), 3);
        due.is("STORE", x.copy(0, 0, 1, 0, 1), -14);
        due.is("count(6)", x.count(6), 4);
        due.is("SIZE", x.sheet(0, 0, -1), -15);
        due.is("count(6)", x.count(6), 5);
    }

    private static void findingsChangeCount6(Due due) {
        refuses(due, "NULL", x -> x.pose(3, 0), NULL);
        refuses(due, "INDEX", x -> x.pose(2, 2), INDEX);
        refuses(due, "CAST", x -> x.put(2, 0, 1, 99), CAST);
        refuses(due, "STORE", x -> x.copy(2, 0, 1, 0, 3), STORE);
        refuses(due, "SIZE", x -> x.sheet(2, 2, -1), SIZE);
        refuses(due, "INDEX of copy", x -> x.copy(2, 1, 2, 2, 4), INDEX);
        refuses(due, "INDEX of write", x -> x.write(2, 2), INDEX);
        Scene.refuses(due, "LOCKED", Scene::locked, x -> x.pose(2, 2), INDEX);
    }

    private static void findNull(Due due) {
        BoneSteps x = new BoneSteps();
        due.is("LOST at first", x.write(2, 0), NULL);
        x.sheet(2, 0, 0);
        due.is("a row without items is not LOST", x.write(2, 0), 0);
        x.lose(2);
        due.is("LOST again", x.write(2, 0), NULL);
    }

    private static void findIndex(Due due) {
        BoneSteps x = Scene.counting(0, 3);
        for (int i : Scene.outside(0, 2)) {
            due.is("item " + i, x.put(0, 0, i, 9), INDEX);
        }
        itemsAre(due, "the items stay", x, 0, 0, 1, 2, 3);
    }

    private static void findCast(Due due) {
        for (int form = 0; form < 3; form++) {
            BoneSteps x = Scene.counting(form, 3);
            for (int other = 0; other < 3; other++) {
                due.is("FORM " + form + " as " + other, x.put(0, other, 0, 1), form == other ? 1 : CAST);
            }
        }
    }

    private static void findStore(Due due) {
        for (int form = 0; form < 3; form++) {
            for (int other = 0; other < 3; other++) {
                BoneSteps x = Scene.counting(form, 3);
                x.sheet(3, other, 3);
                due.is("FORM " + form + " to " + other, x.copy(0, 0, 3, 0, 1), form == other ? 1 : STORE);
            }
        }
    }

    private static void findSize(Due due) {
        BoneSteps x = new BoneSteps();
        due.is("-1", x.sheet(0, 0, -1), SIZE);
        due.is("the least int", x.sheet(0, 0, LEAST), SIZE);
        due.is("0 is not below 0", x.sheet(0, 0, 0), 0);
    }

    // ---- refusals

    private static void firstThatFits(Due due) {
        BoneSteps x = Scene.fan(10);
        due.is("bone(): BAD before FULL", x.bone(-1, 101, 0, 35), -2);
        due.is("bone(): FULL", x.bone(-1, 1, 0, 35), -4);
        x.frame(0);
        due.is("bone(): NOT before FULL", x.bone(-1, 1, 0, 35), -3);
        due.is("bone(): BAD before NOT", x.bone(-2, 1, 0, 35), -2);
        due.is("frame(): BAD before NOT", new BoneSteps().frame(6), -2);
        x.lock(0);
        due.is("root(): BAD before NOT", x.root(0, Scene.MOST + 1), -2);
        due.is("two(): BAD before NOT", x.two(10, 0, 0), Due.BAD);
        due.is("rounds(): BAD before NOT", x.rounds(0, 0, 0, 21), Due.BAD);
        x = Scene.limited(3, 1);
        due.is("turn(): BAD before NOT", x.turn(0, 36), -2);
        due.is("sheet(): BAD before SIZE", x.sheet(4, 0, -1), -2);
        due.is("sheet(): BAD before SIZE", x.sheet(0, 3, -1), -2);
        due.is("lose(): BAD before NULL", x.lose(4), -2);
        due.is("put(): BAD before NULL", x.put(0, 3, 0, 0), -2);
        due.is("put(): NULL before CAST and INDEX", x.put(0, 2, -1, 0), NULL);
        due.is("copy(): BAD before NULL", x.copy(0, 0, 4, 0, 0), -2);
        x.sheet(0, 0, 1);
        due.is("put(): CAST before INDEX", x.put(0, 2, -1, 0), CAST);
        due.is("copy(): NULL before INDEX", x.copy(0, -1, 1, 0, 9), NULL);
        x.sheet(1, 1, 1);
        due.is("copy(): STORE before INDEX", x.copy(0, -1, 1, 0, 9), STORE);
        due.is("pose(): BAD before all", x.pose(4, -1), -2);
        due.is("pose(): NULL before INDEX", x.pose(2, -1), NULL);
        due.is("write(): NULL before INDEX", x.write(2, -1), NULL);
    }

    private static void refusalsChangeNothing(Due due) {
        refuses(due, "BAD", x -> x.blend(0, 0, 101, 1023), -2);
        refuses(due, "NOT", x -> x.turn(2, 3), -3);
        refuses(due, "NOT of bone()", x -> x.bone(3, 1, 0, 35), -3);
        Scene.refuses(due, "NOT of root()", Scene::locked, x -> x.root(1, 1), -3);
        Scene.refuses(due, "FULL", () -> Scene.fan(10), x -> x.bone(3, 1, 0, 35), -4);
        refuses(due, "BAD of walk()", x -> x.walk(0, 0, 5, 3), -2);
        refuses(due, "BAD of thin()", x -> x.thin(0, 19), -2);
        BoneSteps x = Scene.full();
        x.lose(3);
        due.is("BAD", x.put(4, 0, 0, 0), -2);
        due.is("get() is BAD", x.get(4, 0, 0), LEAST);
        due.is("the FINDING before stays", x.count(6), 1);
    }

    private static void refusalsAsLongs(Due due) {
        BoneSteps x = Scene.locked();
        due.is("end(): BAD", x.end(4, 0), -9223372036854775806L);
        due.is("far(): BAD", x.far(4, 0, 0), -9223372036854775806L);
        due.is("two(): BAD", x.two(4, 0, 0), -9223372036854775806L);
        due.is("rounds(): BAD", x.rounds(4, 0, 0, 1), -9223372036854775806L);
        due.is("two(): NOT", x.two(0, 0, 0), -9223372036854775805L);
        due.is("rounds(): NOT", x.rounds(0, 0, 0, 1), -9223372036854775805L);
    }

    /** The last of 512 calls answers as the same call does on an object that came there by few. */
    private static void call512(Due due) {
        BoneSteps few = Scene.full();
        few.two(3, 4 * Scene.WHOLE, Scene.WHOLE);
        long want = few.digest();
        BoneSteps x = new BoneSteps();
        x.bone(-1, 3, 0, 35);
        x.bone(0, 2, 30, 12);
        x.bone(-1, 5, 4, 20);
        x.bone(1, 1, 0, 35);
        int calls = 4;
        for (; calls < 484; calls += 2) {
            x.turn(0, calls % 36);
            x.frame(calls / 2 % 6);
        }
        for (int clip = 0; clip < 6; clip++, calls++) {
            due.is("full CLIP " + clip, x.clear(clip), 30);
        }
        x.turn(0, 0);
        x.root(5, -6);
        Scene.frames(x, 0, 0, 2, 9, 20);
        x.turn(1, 3);
        Scene.frames(x, 5, 3, 4, 30);
        x.turn(2, 24);
        calls += 2 + 8 + 1 + 6 + 1;
        due.is("two", x.two(3, 4 * Scene.WHOLE, Scene.WHOLE), few.far(3, 4 * Scene.WHOLE, Scene.WHOLE));
        due.is("frames", x.count(1), 7);
        calls += 2;
        due.is("calls before the last", calls, 510);
        due.is("call 511", x.live(), few.live());
        due.is("call 512", x.digest(), want);
    }

    // ---- promises 26 to 29

    private static void sheetTells(Due due) {
        BoneSteps x = Scene.counting(0, 5);
        due.is("a new row of another FORM", x.sheet(0, 2, 3), 3);
        itemsAre(due, "a new row", x, 0, 2, 0, 0, 0);
        due.is("not of the FORM before", x.put(0, 0, 0, 1), CAST);
        due.is("a longer one", x.sheet(0, 2, 5), 5);
        itemsAre(due, "a longer one", x, 0, 2, 0, 0, 0, 0, 0);
        due.is("without items", x.sheet(0, 1, 0), 0);
        itemsAre(due, "without items", x, 0, 1);
        due.is("the most", x.sheet(3, 1, 60), 60);
        due.is("the others stay LOST", x.lose(1), NULL);
    }

    private static void sheetBad(Due due) {
        Scene.bad(due, "SHEET", (x, v) -> x.sheet(v, 0, 1), Scene.outside(0, 3));
        Scene.bad(due, "FORM", (x, v) -> x.sheet(0, v, 1), Scene.outside(0, 2));
        Scene.bad(due, "n", (x, v) -> x.sheet(0, 0, v), 61, MOST_INT);
        Scene.bad(due, "SHEET, SIZE behind it", (x, v) -> x.sheet(v, 0, -1), Scene.outside(0, 3));
        Scene.bad(due, "FORM, SIZE behind it", (x, v) -> x.sheet(0, v, -1), Scene.outside(0, 2));
    }

    private static void sheetSize(Due due) {
        refuses(due, "-1 items", x -> x.sheet(1, 2, -1), SIZE);
        refuses(due, "the least int", x -> x.sheet(1, 2, LEAST), SIZE);
        refuses(due, "of a LOST one", x -> x.sheet(3, 2, -1), SIZE);
    }

    private static void loseTells(Due due) {
        BoneSteps x = new BoneSteps();
        x.sheet(0, 0, 0);
        x.sheet(3, 2, 60);
        due.is("60 items", x.lose(3), 60);
        due.is("0 items", x.lose(0), 0);
        due.is("it is LOST", x.put(3, 2, 0, 1), NULL);
        due.is("it is LOST", x.put(0, 0, 0, 1), NULL);
    }

    private static void loseBad(Due due) {
        Scene.bad(due, "SHEET", (x, v) -> x.lose(v), Scene.outside(0, 3));
    }

    private static void loseNull(Due due) {
        refuses(due, "LOST at first", x -> x.lose(3), NULL);
        BoneSteps x = Scene.full();
        x.lose(0);
        due.is("LOST already", x.lose(0), NULL);
        due.is("count(6)", x.count(6), 1);
    }

    private static void lowestBits(Due due) {
        int[] values = {
            0, 1, -1, 127, 128, -128, -129, 255, 256, -256, 32767, 32768, -32768, -32769, 65535, 65536, MOST_INT, LEAST
        };
        for (int v : values) {
            BoneSteps x = new BoneSteps();
            for (int form = 0; form < 3; form++) {
                x.sheet(form, form, 3);
                due.is("put " + v, x.put(form, form, 1, v), 1);
            }
            itemsAre(due, "a byte of " + v, x, 0, 0, 0, (v << 24) >> 24, 0);
            itemsAre(due, "a short of " + v, x, 1, 1, 0, (v << 16) >> 16, 0);
            itemsAre(due, "an int of " + v, x, 2, 2, 0, v, 0);
        }
    }

    private static void putBad(Due due) {
        Scene.bad(due, "SHEET", (x, v) -> x.put(v, 0, 0, 9), Scene.outside(0, 3));
        Scene.bad(due, "FORM", (x, v) -> x.put(0, v, 0, 9), Scene.outside(0, 2));
        Scene.bad(due, "FORM of a LOST one", (x, v) -> x.put(3, v, 0, 9), Scene.outside(0, 2));
        Scene.bad(due, "FORM and no such item", (x, v) -> x.put(0, v, 99, 9), Scene.outside(0, 2));
    }

    private static void putNull(Due due) {
        for (int form = 0; form < 3; form++) {
            int chosen = form;
            refuses(due, "as FORM " + form, x -> x.put(3, chosen, 0, 9), NULL);
            refuses(due, "no such item", x -> x.put(3, chosen, -1, 9), NULL);
        }
    }

    private static void putCast(Due due) {
        refuses(due, "bytes as shorts", x -> x.put(0, 1, 1, 9), CAST);
        refuses(due, "bytes as ints", x -> x.put(0, 2, 1, 9), CAST);
        refuses(due, "shorts as bytes", x -> x.put(1, 0, 1, 9), CAST);
        refuses(due, "ints as shorts", x -> x.put(2, 1, 1, 9), CAST);
        refuses(due, "no such item", x -> x.put(2, 1, 5, 9), CAST);
    }

    private static void putIndex(Due due) {
        int[] sizes = {3, 4, 5};
        for (int s = 0; s < 3; s++) {
            int sheet = s;
            for (int i : Scene.outside(0, sizes[s] - 1)) {
                refuses(due, "SHEET " + s + ", item " + i, x -> x.put(sheet, sheet, i, 9), INDEX);
            }
            due.is("the last item", Scene.full().put(s, s, sizes[s] - 1, 9), 1);
        }
    }

    private static void getTells(Due due) {
        BoneSteps x = Scene.counting(2, 60);
        due.is("item 0", x.get(0, 2, 0), 1);
        due.is("item 59", x.get(0, 2, 59), 60);
        due.is("no FINDING", x.count(6), 0);
        x.put(0, 2, 0, LEAST);
        due.is("an item of the least int", x.get(0, 2, 0), LEAST);
        due.is("no FINDING either", x.count(6), 0);
    }

    private static void getBad(Due due) {
        for (int v : Scene.outside(0, 3)) {
            Scene.refuses(due, "SHEET " + v, Scene::full, x -> x.get(v, 0, 0), LEAST, 0);
        }
        for (int v : Scene.outside(0, 2)) {
            Scene.refuses(due, "FORM " + v, Scene::full, x -> x.get(0, v, 0), LEAST, 0);
            Scene.refuses(due, "FORM " + v + " of a LOST one", Scene::full, x -> x.get(3, v, 0), LEAST, 0);
        }
    }

    private static void getFindings(Due due) {
        Scene.refuses(due, "NULL", Scene::full, x -> x.get(3, 0, 0), LEAST, 1);
        Scene.refuses(due, "NULL before INDEX", Scene::full, x -> x.get(3, 1, -1), LEAST, 1);
        Scene.refuses(due, "CAST", Scene::full, x -> x.get(0, 1, 0), LEAST, 3);
        Scene.refuses(due, "CAST before INDEX", Scene::full, x -> x.get(0, 2, 3), LEAST, 3);
        for (int i : Scene.outside(0, 2)) {
            Scene.refuses(due, "INDEX " + i, Scene::full, x -> x.get(0, 0, i), LEAST, 2);
        }
    }

    // ---- promises 30 to 32

    private static void copyTells(Due due) {
        for (int form = 0; form < 3; form++) {
            BoneSteps x = Scene.counting(form, 5);
            x.sheet(3, form, 4);
            due.is("the first 2 to the end", x.copy(0, 0, 3, 2, 2), 1);
            itemsAre(due, "the first 2 to the end", x, 3, form, 0, 0, 1, 2);
            due.is("the last to the first", x.copy(0, 4, 3, 0, 1), 1);
            itemsAre(due, "the last to the first", x, 3, form, 5, 0, 1, 2);
            due.is("as many as t has", x.copy(0, 1, 3, 0, 4), 1);
            itemsAre(due, "as many as t has", x, 3, form, 2, 3, 4, 5);
            due.is("none, behind the last of both", x.copy(0, 5, 3, 4, 0), 1);
            due.is("none", x.copy(0, 0, 3, 0, 0), 1);
            itemsAre(due, "none", x, 3, form, 2, 3, 4, 5);
            itemsAre(due, "s stays", x, 0, form, 1, 2, 3, 4, 5);
        }
        BoneSteps x = Scene.counting(0, 60);
        x.sheet(1, 0, 60);
        due.is("60 items", x.copy(0, 0, 1, 0, 60), 1);
        due.is("the last of them", x.get(1, 0, 59), 60);
    }

    private static void copyWithinOne(Due due) {
        BoneSteps x = Scene.counting(1, 6);
        due.is("up", x.copy(0, 0, 0, 1, 5), 1);
        itemsAre(due, "up", x, 0, 1, 1, 1, 2, 3, 4, 5);
        x = Scene.counting(1, 6);
        due.is("down", x.copy(0, 1, 0, 0, 5), 1);
        itemsAre(due, "down", x, 0, 1, 2, 3, 4, 5, 6, 6);
        x = Scene.counting(1, 6);
        due.is("up by 2", x.copy(0, 1, 0, 3, 3), 1);
        itemsAre(due, "up by 2", x, 0, 1, 1, 2, 3, 2, 3, 4);
        due.is("in place", x.copy(0, 0, 0, 0, 6), 1);
        itemsAre(due, "in place", x, 0, 1, 1, 2, 3, 2, 3, 4);
    }

    private static void copyBad(Due due) {
        Scene.bad(due, "s", (x, v) -> x.copy(v, 0, 0, 0, 1), Scene.outside(0, 3));
        Scene.bad(due, "t", (x, v) -> x.copy(0, 0, v, 0, 1), Scene.outside(0, 3));
        Scene.bad(due, "s, t LOST", (x, v) -> x.copy(v, 0, 3, 0, 1), Scene.outside(0, 3));
        Scene.bad(due, "t, s LOST", (x, v) -> x.copy(3, 0, v, 0, 1), Scene.outside(0, 3));
        Scene.bad(due, "both", (x, v) -> x.copy(v, -1, v, -1, -1), Scene.outside(0, 3));
    }

    private static void copyNull(Due due) {
        refuses(due, "s", x -> x.copy(3, 0, 0, 0, 1), NULL);
        refuses(due, "t", x -> x.copy(0, 0, 3, 0, 1), NULL);
        refuses(due, "both", x -> x.copy(3, 0, 3, 0, 0), NULL);
        refuses(due, "s, no such items", x -> x.copy(3, -1, 0, 9, 99), NULL);
        refuses(due, "t, no such items", x -> x.copy(0, -1, 3, 9, 99), NULL);
        refuses(due, "t, of ints", x -> x.copy(2, 0, 3, 0, 0), NULL);
    }

    private static void copyStore(Due due) {
        refuses(due, "bytes to shorts", x -> x.copy(0, 0, 1, 0, 1), STORE);
        refuses(due, "ints to bytes", x -> x.copy(2, 0, 0, 0, 1), STORE);
        refuses(due, "none of them", x -> x.copy(1, 0, 2, 0, 0), STORE);
        refuses(due, "no such items", x -> x.copy(1, -1, 2, 99, MOST_INT), STORE);
    }

    private static void copyIndex(Due due) {
        int[][] rows = {
            // SHEET 2 has 5 items: i, j, n
            {-1, 0, 1}, {0, -1, 1}, {0, 0, -1}, {-1, 0, 0}, {0, -1, 0}, {5, 0, 1}, {0, 5, 1}, {6, 0, 0}, {0, 6, 0},
            {0, 0, 6}, {1, 0, 5}, {0, 1, 5}, {3, 0, 3}, {0, 3, 3}, {MOST_INT, 0, 1}, {0, MOST_INT, 1},
            {0, 0, MOST_INT}, {1, 0, MOST_INT}, {0, 1, MOST_INT}, {MOST_INT, MOST_INT, MOST_INT}, {LEAST, 0, 0},
            {0, LEAST, 0}, {0, 0, LEAST}, {LEAST, LEAST, LEAST}, {6, 6, -1}
        };
        for (int[] row : rows) {
            String call = "from " + row[0] + " to " + row[1] + ", " + row[2];
            refuses(due, call, x -> x.copy(2, row[0], 2, row[1], row[2]), INDEX);
        }
        BoneSteps x = Scene.counting(0, 5);
        x.sheet(1, 0, 3);
        due.is("not so many in t alone", x.copy(0, 0, 1, 0, 4), INDEX);
        due.is("not so many in s alone", x.copy(1, 0, 0, 0, 4), INDEX);
        due.is("so many in both", x.copy(0, 2, 1, 0, 3), 1);
    }

    private static void poseFromItem(Due due) {
        BoneSteps x = Scene.counting(0, 60);
        due.is("no BONES, from item 0", x.pose(0, 0), 0);
        due.is("no BONES, behind the last item", x.pose(0, 60), 0);
        for (int b = 0; b < 10; b++) {
            x.bone(-1, 1, 0, 35);
        }
        due.is("from item 0", x.pose(0, 0), 0);
        due.is("BONE 0", x.about(0, 4), 1);
        due.is("BONE 9", x.about(9, 4), 10);
        due.is("the last 10", x.pose(0, 50), 0);
        due.is("BONE 0", x.about(0, 4), 51 - 36);
        due.is("BONE 9", x.about(9, 4), 60 - 36);
        due.is("the items stay", x.get(0, 0, 50), 51);
        x.root(0, 0);
        due.is("it follows at once", x.end(0, 0), -56 * Scene.PART);
    }

    private static void itemsModulo36(Due due) {
        int[][] rows = {
            {0, 0}, {35, 35}, {36, 0}, {71, 35}, {72, 0}, {-1, 35}, {-35, 1}, {-36, 0}, {-37, 35},
            {MOST_INT, 19}, {LEAST, 16}, {LEAST + 1, 17}
        };
        for (int[] row : rows) {
            BoneSteps x = Scene.oneBone();
            x.sheet(0, 2, 1);
            x.put(0, 2, 0, row[0]);
            due.is("item " + row[0], x.pose(0, 0), 0);
            due.is("its TURN", x.about(0, 4), row[1]);
        }
        BoneSteps x = Scene.oneBone();
        x.sheet(0, 0, 1);
        x.put(0, 0, 0, 200);
        x.pose(0, 0);
        due.is("a byte below 0, -56", x.about(0, 4), 16);
        // LIMITS 30 .. 4: -1 is 35 and within, -7 is 29 and is not.
        x = Scene.limited(30, 10);
        x.sheet(0, 1, 2);
        x.put(0, 1, 0, -1);
        x.put(0, 1, 1, -7);
        due.is("-1", x.pose(0, 0), 0);
        due.is("its TURN", x.about(0, 4), 35);
        due.is("-7", x.pose(0, 1), 1);
        due.is("its TURN", x.about(0, 4), 30);
    }

    private static void poseCounts(Due due) {
        for (int outside = 0; outside <= 10; outside++) {
            BoneSteps x = new BoneSteps();
            x.sheet(0, 0, 10);
            for (int b = 0; b < 10; b++) {
                x.bone(-1, 1, 10, 10);
                x.put(0, 0, b, b < outside ? (b % 2 == 0 ? 9 : 21) : (b % 2 == 0 ? 10 : 20));
            }
            due.is(outside + " not within", x.pose(0, 0), outside);
            for (int b = 0; b < 10; b++) {
                due.is("BONE " + b, x.about(b, 4), b % 2 == 0 ? 10 : 20);
            }
        }
    }

    private static void poseBad(Due due) {
        Scene.bad(due, "SHEET", (x, v) -> x.pose(v, 0), Scene.outside(0, 3));
        Scene.bad(due, "SHEET and no such item", (x, v) -> x.pose(v, -1), Scene.outside(0, 3));
    }

    private static void poseNull(Due due) {
        refuses(due, "LOST", x -> x.pose(3, 0), NULL);
        refuses(due, "LOST, no such item", x -> x.pose(3, -1), NULL);
        Scene.refuses(due, "without BONES", BoneSteps::new, x -> x.pose(0, 0), NULL);
    }

    private static void poseIndex(Due due) {
        // The scene has 4 BONES; SHEETS 0, 1 and 2 have 3, 4 and 5 items.
        int[][] rows = {{0, 0}, {1, 1}, {2, 2}, {2, 5}, {2, -1}, {1, -1}, {2, MOST_INT}, {2, LEAST}, {2, MOST_INT - 3}};
        for (int[] row : rows) {
            refuses(due, "pose(" + row[0] + ", " + row[1] + ")", x -> x.pose(row[0], row[1]), INDEX);
        }
        due.isTrue("just so many", Scene.full().pose(1, 0) >= 0);
        due.isTrue("just so many at the end", Scene.full().pose(2, 1) >= 0);
        BoneSteps x = Scene.counting(0, 2);
        due.is("no BONES, one behind the last item", x.pose(0, 3), INDEX);
        due.is("no BONES, -1", x.pose(0, -1), INDEX);
    }

    private static void writeTells(Due due) {
        for (int form = 0; form < 3; form++) {
            BoneSteps x = Scene.counting(form, 12);
            due.is("no BONES", x.write(0, 12), 0);
            due.is("no BONES, nothing comes", x.get(0, form, 11), 12);
            for (int b = 0; b < 10; b++) {
                x.bone(-1, 1, 26 + b, 0);
            }
            due.is("10 BONES at the end", x.write(0, 2), 10);
            itemsAre(due, "at the end", x, 0, form, 1, 2, 26, 27, 28, 29, 30, 31, 32, 33, 34, 35);
            due.is("10 BONES from item 0", x.write(0, 0), 10);
            itemsAre(due, "from item 0", x, 0, form, 26, 27, 28, 29, 30, 31, 32, 33, 34, 35, 34, 35);
            due.is("the POSE stays", x.about(9, 4), 35);
        }
    }

    private static void writeBad(Due due) {
        Scene.bad(due, "SHEET", (x, v) -> x.write(v, 0), Scene.outside(0, 3));
        Scene.bad(due, "SHEET and no such item", (x, v) -> x.write(v, -1), Scene.outside(0, 3));
    }

    private static void writeNull(Due due) {
        refuses(due, "LOST", x -> x.write(3, 0), NULL);
        refuses(due, "LOST, no such item", x -> x.write(3, 99), NULL);
        Scene.refuses(due, "without BONES", BoneSteps::new, x -> x.write(0, 0), NULL);
    }

    private static void writeIndex(Due due) {
        int[][] rows = {{0, 0}, {1, 1}, {2, 2}, {2, 5}, {2, -1}, {1, -1}, {2, MOST_INT}, {2, LEAST}, {2, MOST_INT - 3}};
        for (int[] row : rows) {
            refuses(due, "write(" + row[0] + ", " + row[1] + ")", x -> x.write(row[0], row[1]), INDEX);
        }
        due.is("just so many", Scene.full().write(1, 0), 4);
        due.is("just so many at the end", Scene.full().write(2, 1), 4);
        BoneSteps x = Scene.counting(0, 2);
        due.is("no BONES, one behind the last item", x.write(0, 3), INDEX);
        due.is("no BONES, -1", x.write(0, -1), INDEX);
    }

    // ---- promises 33 and 34

    private static void countBones(Due due) {
        BoneSteps x = new BoneSteps();
        due.is("none", x.count(0), 0);
        for (int b = 1; b <= 10; b++) {
            x.bone(-1, 1, 0, 35);
            due.is("so many", x.count(0), b);
        }
        x.bone(-1, 1, 0, 35);
        due.is("FULL", x.count(0), 10);
    }

    private static void countFrames(Due due) {
        BoneSteps x = Scene.oneBone();
        due.is("none", x.count(1), 0);
        for (int n = 0; n < 180; n++) {
            x.frame(n / 30);
        }
        due.is("6 times 30", x.count(1), 180);
        x.frame(5);
        due.is("FULL", x.count(1), 180);
        x.thin(5, 0);
        due.is("28 less", x.count(1), 152);
        x.clear(0);
        due.is("30 less", x.count(1), 122);
    }

    private static void countLocked(Due due) {
        BoneSteps x = Scene.fan(10);
        due.is("none", x.count(2), -1);
        x.lock(9);
        due.is("BONE 9", x.count(2), 9);
        x.lock(10);
        due.is("refused", x.count(2), 9);
        x.lock(0);
        due.is("BONE 0", x.count(2), 0);
        x.lock(-1);
        due.is("none again", x.count(2), -1);
    }

    private static void countJoin(Due due) {
        BoneSteps x = new BoneSteps();
        due.is("at first", x.count(3), 3);
        x.join(0);
        due.is("0", x.count(3), 0);
        x.join(100);
        due.is("100", x.count(3), 100);
        x.join(101);
        due.is("refused", x.count(3), 100);
    }

    private static void countKeys(Due due) {
        BoneSteps x = Scene.clipOf(0, 9, 0);
        due.is("before any", x.count(4), 0);
        x.pack(0, 0);
        due.is("by pack()", x.count(4), 3);
        x.thin(0, 18);
        due.is("by thin()", x.count(4), 2);
        x.pack(0, -1);
        due.is("refused", x.count(4), 2);
        x.pack(1, 0);
        due.is("of an empty CLIP by pack()", x.count(4), 0);
        x.pack(0, 0);
        x.thin(1, 0);
        due.is("of an empty CLIP by thin()", x.count(4), 0);
    }

    private static void countCost(Due due) {
        BoneSteps x = Scene.clipOf(0, 9);
        due.is("before any", x.count(5), -1);
        x.walk(0, 0, 0, 0);
        due.is("to itself", x.count(5), 0);
        x.walk(0, 0, 0, 1);
        due.is("1", x.count(5), 1);
        x.walk(0, 0, 0, 2);
        due.is("refused", x.count(5), 1);
        x.walk(0, 1, 0, 0);
        due.is("NONE", x.count(5), -1);
    }

    private static void countFinding(Due due) {
        BoneSteps x = new BoneSteps();
        due.is("before any", x.count(6), 0);
        x.sheet(0, 0, -1);
        due.is("SIZE", x.count(6), 5);
        x.sheet(0, 0, 2);
        x.put(0, 0, 0, 1);
        x.get(0, 0, 0);
        due.is("good calls leave it", x.count(6), 5);
        x.put(0, 3, 0, 1);
        x.frame(0);
        due.is("BAD and NOT leave it", x.count(6), 5);
        x.get(1, 0, 0);
        due.is("NULL by get()", x.count(6), 1);
        x.get(0, 1, 0);
        due.is("CAST by get()", x.count(6), 3);
        x.get(0, 0, 2);
        due.is("INDEX by get()", x.count(6), 2);
    }

    private static void countBad(Due due) {
        Scene.bad(due, "what", (x, v) -> x.count(v), Scene.outside(0, 6));
    }

    private static void digestOfNothing(Due due) {
        BoneSteps x = new BoneSteps();
        due.is("0, 0, -1 and 3", x.digest(), (((17L * 31 + 0) * 31 + 0) * 31 - 1) * 31 + 3);
        x.join(100);
        due.is("JOIN 100", x.digest(), (((17L * 31 + 0) * 31 + 0) * 31 - 1) * 31 + 100);
        x.root(5, 6);
        x.sheet(0, 0, 1);
        x.put(0, 0, 0, 1);
        x.put(0, 0, 1, 1);
        due.is("no more is in it", x.digest(), (((17L * 31 + 0) * 31 + 0) * 31 - 1) * 31 + 100);
    }

    private static void digestOfAll(Due due) {
        BoneSteps x = Scene.locked();
        long h = 17;
        for (int what = 0; what < 4; what++) {
            h = 31 * h + x.count(what);
        }
        for (int b = 0; b < 4; b++) {
            h = 31 * h + x.about(b, 4);
            h = 31 * h + x.end(b, 0);
            h = 31 * h + x.end(b, 1);
        }
        int[] sizes = {4, 0, 0, 0, 0, 3};
        for (int clip = 0; clip < 6; clip++) {
            for (int f = 0; f < sizes[clip]; f++) {
                for (int b = 0; b < 4; b++) {
                    h = 31 * h + x.at(clip, f, b);
                }
            }
        }
        due.is("digest()", x.digest(), h);
        due.is("it changes nothing", x.digest(), h);
    }

    private static void digestWraps(Due due) {
        BoneSteps x = Scene.oneBone();
        BigInteger h = BigInteger.valueOf(17);
        List<Long> parts = new ArrayList<>();
        for (int n = 0; n < 180; n++) {
            Scene.frames(x, n / 30, n % 36);
        }
        for (int what = 0; what < 4; what++) {
            parts.add((long) x.count(what));
        }
        parts.add((long) x.about(0, 4));
        parts.add(x.end(0, 0));
        parts.add(x.end(0, 1));
        for (int n = 0; n < 180; n++) {
            parts.add((long) (n % 36));
        }
        for (long part : parts) {
            h = h.multiply(BigInteger.valueOf(31)).add(BigInteger.valueOf(part));
        }
        due.is("180 FRAMES", x.digest(), h.longValue());
        due.isTrue("it has wrapped", h.bitLength() > 64);
    }
}
