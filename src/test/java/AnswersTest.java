import java.util.ArrayList;
import java.util.List;

/** The least and the greatest that the questions answer, and what they answer where there is nothing. */
public final class AnswersTest extends Scene {
    public static void main(String[] args) {
        test("about 0: how many FIELDS", AnswersTest::aboutFields);
        test("about 1: its PLACE (FREED: NONE)", AnswersTest::aboutPlace);
        test("about 2: COLOUR", AnswersTest::aboutColour);
        test("about 3 and 4: whether it is FREED, is REACHED", AnswersTest::aboutFreedAndReached);
        test("about 5: has a LAST WISH (1, 0)", AnswersTest::aboutWish);
        test("about 6: how often it was MOVED", AnswersTest::aboutMoved);
        test("about: BAD", AnswersTest::aboutBad);
        test("field: NONE: nothing, or there is none such", AnswersTest::fieldNone);
        test("field: a THING, FREED or not", AnswersTest::fieldOfFreed);
        test("field: BAD: the THING", AnswersTest::fieldBad);
        test("holder: REGISTER k % 4 of OWNER k / 4 (k = 0 .. 11)", AnswersTest::holderRegisters);
        test("holder: SLOT k - 12 (.. 15)", AnswersTest::holderSlots);
        test("holder: WEAK HOLDER k - 16 (.. 21)", AnswersTest::holderWeak);
        test("holder: the KEY of PAIR k - 22 (.. 29)", AnswersTest::holderPairs);
        test("holder: k - 30 in THE WISHES (from 30 on)", AnswersTest::holderWishes);
        test("holder: BAD: k below 0", AnswersTest::holderBad);
        test("cell: CELL k (0 .. 199)", AnswersTest::cellEnds);
        test("cell: NONE: it is free", AnswersTest::cellFree);
        test("cell: NONE: of the HALF not at hand what was MOVED from there", AnswersTest::cellMoved);
        test("cell: MOVED within the HALF at hand", AnswersTest::cellMovedWithin);
        test("count: nothing there", AnswersTest::countNothing);
        test("count 0 .. 4: THINGS ever, not FREED, REACHED, LOST, neither", AnswersTest::countThings);
        test("count 5: free CELLS", AnswersTest::countFree);
        test("count 6: free ones that lie one behind the other, at most", AnswersTest::countLongest);
        test("count 5 and 6 in MANNER 3: behind all that came to the HALF at hand", AnswersTest::countInHalves);
        test("count 10: MOVED ever", AnswersTest::countMoved);
        test("count 11 and 12: THE WISHES, PAIRS not dropped", AnswersTest::countWishesAndPairs);
        test("count: BAD", AnswersTest::countBad);
        test("lost: the least THING that is LOST; NONE", AnswersTest::lostLeast);
        test("digest: h = 3, nothing there", AnswersTest::digestOfNothing);
        test("digest: of each THING about 1, 2, 3, FIELDS; holder(0) to (29); under()", AnswersTest::digestOfAll);
        test("digest: not what it does not name", AnswersTest::digestLeavesOut);
        test("digest: wraps around", AnswersTest::digestWraps);
        test("An object is used for at most 512 calls: the last of them", AnswersTest::lastCall);
        finish();
    }

    private static void aboutFields() {
        fresh(0, 0);
        things(0, 6);
        due("the least", x.about(0, 0), 0);
        due("the greatest", x.about(1, 0), 6);
        dropAll(1);
        x.begin();
        due("of a freed one", x.about(1, 0), 6);
    }

    private static void aboutPlace() {
        fresh(0, 0);
        for (int thing = 0; thing < 28; thing++) {
            x.make(0, 0, 6, false);
        }
        x.make(0, 1, 2, false);
        x.make(0, 2, 0, false);
        due("the least", x.about(0, 1), 0);
        due("the greatest", x.about(29, 1), 199);
        x.begin();
        due("freed", x.about(0, 1), NONE);
        due("not freed", x.about(29, 1), 199);
    }

    private static void aboutColour() {
        fresh(1, 0);
        things(0, 0, 0);
        x.begin();
        x.drop(0, 0);
        x.sweep(1);
        coloursAre("a black one that is held no more", BLACK, GRAY, GRAY);
        x.sweep(400);
        dropAll(1);
        x.begin();
        coloursAre("two that are held no more", WHITE, WHITE, GRAY);
        x.sweep(400);
        coloursAre("they are freed", WHITE, WHITE, BLACK);
    }

    private static void aboutFreedAndReached() {
        lostInRegister();
        int[] freed = {0, 1};
        for (int thing = 0; thing < 2; thing++) {
            due("freed", x.about(thing, 3), freed[thing]);
            due("reached", x.about(thing, 4), 1);
        }
        dropAll(0, 5);
        for (int thing = 0; thing < 2; thing++) {
            due("freed", x.about(thing, 3), freed[thing]);
            due("not reached", x.about(thing, 4), 0);
        }
    }

    private static void aboutWish() {
        fresh(0, 0);
        x.make(0, 0, 6, true);
        x.make(0, 1, 6, false);
        due("with", x.about(0, 5), 1);
        due("without", x.about(1, 5), 0);
        dropAll(0, 1);
        x.begin();
        due("granted", x.about(0, 5), 0);
        due("a freed one without", x.about(1, 5), 0);
    }

    private static void aboutMoved() {
        for (int manner = 0; manner < 4; manner++) {
            fresh(manner, 0);
            things(0, 0);
            for (int rounds = 0; rounds < 3; rounds++) {
                due("after so many rounds", x.about(0, 6), manner == 3 ? rounds : 0);
                round();
            }
            x.make(0, 2, 0, false);
            due("a new one", x.about(2, 6), 0);
        }
    }

    private static void aboutBad() {
        fresh(0, 0);
        due("no thing", x.about(0, 0), BAD);
        things(0, 0);
        for (int what = 0; what < 7; what++) {
            due("of the last", x.about(1, what) != BAD ? 1 : 0, 1);
            for (int thing : new int[] {-1, 2, 119, 120, MOST, LEAST}) {
                due("thing " + thing, x.about(thing, what), BAD);
            }
        }
        for (int what : new int[] {-1, 7, MOST, LEAST}) {
            due("what " + what, x.about(0, what), BAD);
            due("both", x.about(2, what), BAD);
        }
        x.attic(0, 0);
        due("in the next attic", x.about(0, 0), BAD);
    }

    private static void fieldNone() {
        for (int n = 0; n <= 6; n++) {
            fresh(0, 0);
            things(n, 6);
            for (int i = 0; i < 6; i++) {
                x.put(0, 1, i, 1);
                due("nothing, or none such", x.field(0, i), NONE);
            }
            for (int i : new int[] {-1, n, 6, 7, MOST, LEAST}) {
                due("none such: " + i, x.field(0, i), NONE);
            }
            for (int i : new int[] {-1, 6, MOST, LEAST}) {
                due("none such in the next: " + i, x.field(1, i), NONE);
            }
            due("the next one's last", x.field(1, 5), 1);
        }
    }

    private static void fieldOfFreed() {
        fresh(0, 0);
        things(6, 0);
        x.put(0, 0, 5, 1);
        x.put(0, 0, 4, 0);
        dropAll(0, 1);
        due("both are freed", x.begin(), 2);
        x.make(0, 0, 6, false);
        x.put(0, 0, 5, 0);
        due("where the freed one was", x.about(2, 1), 0);
        due("its last field", x.field(0, 5), 1);
        due("itself", x.field(0, 4), 0);
        due("nothing", x.field(0, 3), NONE);
        due("none such", x.field(0, 6), NONE);
    }

    private static void fieldBad() {
        fresh(0, 0);
        due("no thing", x.field(0, 0), BAD);
        things(1, 1);
        for (int thing : new int[] {-1, 2, 119, 120, MOST, LEAST}) {
            due("thing " + thing, x.field(thing, 0), BAD);
            due("nor such a field", x.field(thing, -1), BAD);
        }
        due("the last", x.field(1, 0), NONE);
    }

    private static void holderRegisters() {
        fresh(0, 0);
        x.make(0, 0, 0, false);
        x.make(0, 3, 0, false);
        x.make(1, 0, 0, false);
        x.make(2, 3, 0, false);
        holdersAre("registers", 0, 0, NONE, NONE, 1, 2, NONE, NONE, NONE, NONE, NONE, NONE, 3, NONE);
    }

    private static void holderSlots() {
        fresh(0, 0);
        things(0, 0);
        x.store(0, 0, 0);
        x.store(3, 0, 1);
        holdersAre("slots", 11, NONE, 0, NONE, NONE, 1, NONE);
    }

    private static void holderWeak() {
        fresh(0, 0);
        things(0, 0);
        x.weak(0, 0, 0);
        x.weak(5, 0, 1);
        holdersAre("weak holders", 15, NONE, 0, NONE, NONE, NONE, NONE, 1, NONE);
    }

    private static void holderPairs() {
        fresh(0, 0);
        things(0, 0);
        for (int pair = 0; pair < 7; pair++) {
            x.pair(0, 0, 1);
        }
        holdersAre("keys", 21, NONE, 0, 0, 0, 0, 0, 0, 0, NONE);
        x.pair(0, 1, 0);
        holdersAre("the last", 28, 0, 1, NONE);
        dropAll(0);
        x.begin();
        due("a value keeps it", x.about(0, 3), 0);
        holdersAre("none is dropped", 21, NONE, 0, 0, 0, 0, 0, 0, 0, 1);
        dropAll(1);
        x.begin();
        holdersAre("all are dropped", 21, NONE, NONE, NONE, NONE, NONE, NONE, NONE, NONE, NONE);
    }

    private static void holderWishes() {
        fresh(0, 0);
        for (int thing = 0; thing < 3; thing++) {
            x.make(0, 0, 0, true);
        }
        holdersAre("none yet", 29, NONE, NONE);
        x.begin();
        holdersAre("two", 29, NONE, 0, 1, NONE);
        for (int k : new int[] {149, 150, 151, 1000, MOST}) {
            due("holder " + k, x.holder(k), NONE);
        }
    }

    private static void holderBad() {
        fresh(0, 0);
        things(0);
        for (int k : new int[] {-1, -4, -30, LEAST}) {
            due("holder " + k, x.holder(k), BAD);
        }
        due("the least", x.holder(0), 0);
    }

    private static void cellEnds() {
        fresh(0, 0);
        for (int thing = 0; thing < 28; thing++) {
            x.make(0, 0, 6, false);
        }
        x.make(0, 1, 3, false);
        due("the least", x.cell(0), 0);
        due("the greatest", x.cell(199), 28);
        for (int k : new int[] {-1, 200, MOST, LEAST}) {
            due("cell " + k, x.cell(k), BAD);
        }
        fresh(0, 0);
        for (int thing = 0; thing < 120; thing++) {
            x.make(0, 0, 0, false);
        }
        due("the greatest thing", x.cell(119), 119);
    }

    private static void cellFree() {
        for (int manner = 0; manner < 4; manner++) {
            fresh(manner, 0);
            due("the least", x.cell(0), NONE);
            due("the greatest", x.cell(199), NONE);
            things(1, 0);
            cellsAre(0, 0, 0, 1, NONE);
            dropAll(0);
            round();
            due("of the freed one", x.cell(0), NONE);
            due("of the other", x.cell(manner == 3 ? 100 : 2), 1);
        }
    }

    private static void cellMoved() {
        fresh(3, 0);
        things(1, 1, 1);
        x.put(0, 0, 0, 2);
        dropAll(1, 2);
        x.begin();
        cellsAre(0, NONE, NONE, 1, 1, 2, 2, NONE);
        cellsAre(100, 0, 0, NONE);
        x.sweep(1);
        cellsAre(0, NONE, NONE, 1, 1, NONE, NONE, NONE);
        cellsAre(100, 0, 0, 2, 2, NONE);
        x.sweep(400);
        cellsAre(0, NONE, NONE, NONE, NONE, NONE, NONE, NONE);
        cellsAre(100, 0, 0, 2, 2, NONE);
    }

    private static void cellMovedWithin() {
        fresh(3, 2);
        things(1);
        x.begin();
        x.make(0, 1, 1, false);
        x.put(0, 0, 0, 1);
        cellsAre(100, 0, 0, 1, 1, NONE);
        x.sweep(1);
        cellsAre(100, 0, 0, NONE, NONE, 1, 1, NONE);
        due("its place", x.about(1, 1), 104);
        due("behind all that came", x.count(5), 94);
    }

    private static void countNothing() {
        for (int manner = 0; manner < 4; manner++) {
            fresh(manner, 0);
            int cells = manner == 3 ? 100 : 200;
            int[] want = {0, 0, 0, 0, 0, cells, cells, 0, 0, 0, 0, 0, 0};
            for (int what = 0; what < want.length; what++) {
                due("count " + what, x.count(what), want[what]);
            }
        }
    }

    private static void countThings() {
        lostInRegister();
        x.make(0, 1, 0, false);
        x.make(0, 2, 0, false);
        dropAll(2);
        int[] want = {4, 3, 3, 1, 1};
        for (int what = 0; what < want.length; what++) {
            due("one lost, one waste: count " + what, x.count(what), want[what]);
        }
        dropAll(0, 1, 5);
        int[] none = {4, 3, 0, 0, 3};
        for (int what = 0; what < none.length; what++) {
            due("none held: count " + what, x.count(what), none[what]);
        }
        round();
        int[] freed = {4, 0, 0, 0, 0};
        for (int what = 0; what < freed.length; what++) {
            due("all freed: count " + what, x.count(what), freed[what]);
        }
    }

    private static void countFree() {
        fresh(0, 0);
        for (int thing = 0; thing < 28; thing++) {
            x.make(0, 0, 6, false);
            due("seven fewer", x.count(5), 200 - 7 * (thing + 1));
        }
        x.make(0, 1, 3, false);
        due("none", x.count(5), 0);
        due("none behind another", x.count(6), 0);
        x.begin();
        due("all but the last two's", x.count(5), 27 * 7);
    }

    private static void countLongest() {
        fresh(0, 0);
        due("nothing is there", x.count(6), 200);
        things(6, 0);
        due("behind all", x.count(6), 192);
        fresh(0, 0);
        things(3, 0, 2, 0);
        dropAll(0, 2);
        x.begin();
        due("free", x.count(5), 198);
        due("the longest is the last", x.count(6), 191);
        longestIsFirst();
    }

    /** The attic is full; then its first cells are free, and fewer ones behind them. */
    private static void longestIsFirst() {
        fresh(0, 0);
        things(6, 0, 6, 0, 5, 0);
        due("its cells", x.about(5, 1), 22);
        for (int thing = 6; thing < 31; thing++) {
            x.make(1, 2, 6, false);
            x.put(1, 2, 0, 3);
            x.move(1, 3, 2);
        }
        x.make(2, 0, 1, false);
        due("none is free", x.count(6), 0);
        dropAll(2);
        x.begin();
        due("in the middle", x.count(6), 7);
        due("in all", x.count(5), 7);
        dropAll(0, 4, 8);
        x.begin();
        due("at both ends, and in the middle", x.count(6), 7);
        due("in all", x.count(5), 7 + 7 + 6 + 2);
        x.make(2, 1, 6, false);
        x.make(2, 2, 6, false);
        due("six, and two at the end", x.count(6), 6);
        x.make(2, 3, 5, false);
        due("two at the end", x.count(6), 2);
        x.make(0, 0, 0, false);
        due("the last cell alone", x.count(6), 1);
    }

    private static void countInHalves() {
        fresh(3, 0);
        things(2, 6, 0);
        dropAll(1);
        due("of the first half", x.count(5), 89);
        x.begin();
        due("of the second, behind what was moved there", x.count(5), 96);
        due("likewise", x.count(6), 96);
        x.make(0, 1, 0, false);
        due("behind a new one", x.count(5), 95);
        x.sweep(400);
        due("when it is over", x.count(5), 95);
        due("likewise", x.count(6), 95);
        dropAll(0, 1, 2);
        due("what is waste takes its cells", x.count(5), 95);
        x.begin();
        due("a half with nothing in it", x.count(5), 100);
        for (int thing = 4; thing < 17; thing++) {
            x.make(0, 0, 6, false);
        }
        due("nine cells", x.count(5), 9);
        due("white ones need five of them", x.make(0, 1, 4, false), FULL);
        due("but no more", x.make(0, 1, 3, false), 17);
        x.sweep(400);
        due("five are left", x.count(5), 5);
        due("when it is over, for any", x.make(0, 1, 4, false), 18);
        due("none is left", x.count(5), 0);
        due("likewise", x.count(6), 0);
    }

    private static void countMoved() {
        for (int manner = 0; manner < 4; manner++) {
            fresh(manner, 0);
            things(0, 0);
            round();
            round();
            dropAll(0);
            round();
            due("two, two and one", x.count(10), manner == 3 ? 5 : 0);
            x.attic(3, 0);
            due("in the next attic", x.count(10), 0);
        }
    }

    private static void countWishesAndPairs() {
        fresh(0, 0);
        x.make(0, 0, 0, true);
        for (int pair = 0; pair < 8; pair++) {
            due("pairs", x.count(12), pair);
            x.pair(0, 0, 0);
        }
        due("the most", x.count(12), 8);
        dropAll(0);
        x.begin();
        due("a wish", x.count(11), 1);
        due("its pairs are not dropped", x.count(12), 8);
        x.wish(0, 0);
        due("no wish", x.count(11), 0);
        dropAll(0);
        x.begin();
        due("all are dropped", x.count(12), 0);
    }

    private static void countBad() {
        for (int manner = 0; manner < 4; manner++) {
            fresh(manner, 0);
            for (int what : new int[] {-1, 13, MOST, LEAST}) {
                due("count " + what, x.count(what), BAD);
            }
            due("the greatest", x.count(12), 0);
        }
    }

    private static void lostLeast() {
        fresh(1, 2);
        due("nothing there", x.lost(), NONE);
        x.begin();
        x.sweep(1);
        for (int thing = 0; thing < 120; thing++) {
            x.make(0, 0, 0, false);
        }
        due("not freed yet", x.lost(), NONE);
        x.sweep(400);
        due("the greatest", x.lost(), 119);
        due("it alone", x.count(3), 1);
        fresh(1, 2);
        x.begin();
        x.sweep(1);
        things(0);
        x.sweep(400);
        due("the least", x.lost(), 0);
        x.attic(1, 2);
        due("in the next attic", x.lost(), NONE);
    }

    private static long digestOf(List<Integer> row) {
        long h = 3;
        for (int v : row) {
            h = 31 * h + v;
        }
        return h;
    }

    private static void digestOfNothing() {
        List<Integer> row = new ArrayList<>();
        for (int k = 0; k < 30; k++) {
            row.add(NONE);
        }
        row.add(0);
        x = new AtticSweep();
        due("a new object", x.digest(), digestOf(row));
        for (int manner = 0; manner < 4; manner++) {
            fresh(manner, 0);
            due("in any manner", x.digest(), digestOf(row));
        }
        row.set(30, 1);
        x.begin();
        due("marking", x.digest(), digestOf(row));
    }

    /** What the digest runs over, asked for one by one. */
    private static List<Integer> askedFor() {
        List<Integer> row = new ArrayList<>();
        for (int thing = 0; thing < x.count(0); thing++) {
            for (int what = 1; what < 4; what++) {
                row.add(x.about(thing, what));
            }
            for (int i = 0; i < x.about(thing, 0); i++) {
                row.add(x.field(thing, i));
            }
        }
        for (int k = 0; k < 30; k++) {
            row.add(x.holder(k));
        }
        row.add(x.under());
        return row;
    }

    private static void digestOfAll() {
        for (int manner = 0; manner < 4; manner++) {
            fresh(manner, 0);
            things(6, 0, 2, 0);
            x.put(0, 0, 5, 1);
            x.put(0, 0, 0, 0);
            x.make(2, 3, 1, true);
            x.weak(5, 0, 2);
            x.store(3, 0, 0);
            x.pair(0, 3, 2);
            x.make(0, 1, 1, false);
            dropAll(1, 2, 11);
            due("before a round", x.digest(), digestOf(askedFor()));
            x.begin();
            due("as it begins", x.digest(), digestOf(askedFor()));
            x.sweep(3);
            due("in its midst", x.digest(), digestOf(askedFor()));
            x.sweep(400);
            due("one is freed", x.count(1), 5);
            due("when it is over", x.digest(), digestOf(askedFor()));
            for (int pair = 1; pair < 8; pair++) {
                x.pair(0, 0, 0);
            }
            due("with the last pair", x.digest(), digestOf(askedFor()));
        }
    }

    private static void digestLeavesOut() {
        fresh(0, 0);
        things(1, 0);
        long before = x.digest();
        x.attic(3, 2);
        x.make(0, 0, 1, true);
        x.make(0, 1, 0, true);
        due("manner, fault and wishes", x.digest(), before);
        x.pair(0, 0, 1);
        before = x.digest();
        x.attic(0, 0);
        things(1, 0);
        x.pair(0, 0, 0);
        due("the value of a pair", x.digest(), before);
    }

    private static void digestWraps() {
        fresh(0, 0);
        for (int thing = 0; thing < 28; thing++) {
            x.make(0, 0, 6, false);
            x.put(0, 0, thing % 6, 0);
        }
        long h = 3;
        for (int thing = 0; thing < 28; thing++) {
            h = (31 * h + 7 * thing) * 31 * 31;
            for (int i = 0; i < 6; i++) {
                h = 31 * h + (i == thing % 6 ? thing : NONE);
            }
        }
        h = 31 * h + 27;
        for (int k = 1; k < 30; k++) {
            h = 31 * h + NONE;
        }
        due("28 things", x.digest(), 31 * h);
    }

    private static void lastCall() {
        for (int manner = 0; manner < 4; manner++) {
            fresh(manner, 0);
            things(6);
            for (int rounds = 0; rounds < 254; rounds++) {
                due("begin", x.begin(), manner == 0 ? 0 : 1);
                x.sweep(400);
            }
            due("call 511: rounds", x.count(7), 254);
            due("call 512: moved", x.about(0, 6), manner == 3 ? 254 : 0);
        }
        fresh(0, 0);
        for (int call = 2; call < 512; call++) {
            due("refused", x.drop(3, call), BAD);
        }
        due("call 512: the first thing", x.make(2, 3, 6, true), 0);
    }
}
