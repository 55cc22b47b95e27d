import java.util.List;

/** Calls that are refused: nothing is changed by them; and where reasons meet, the first of them is answered. */
public final class RefusalsTest extends Scene {
    private interface Act {
        int now();
    }

    public static void main(String[] args) {
        test("make: FULL: 120 were made", RefusalsTest::makeOneMore);
        test("make: FULL: there is no PLACE", RefusalsTest::makeWithoutPlace);
        test("make: FULL: MARKING in MANNER 3", RefusalsTest::makeWhileMarking);
        test("get and put: NO, LOST", RefusalsTest::getAndPut);
        test("weak: NO", RefusalsTest::weak);
        test("pair: NO, FULL", RefusalsTest::pair);
        test("begin: NO", RefusalsTest::begin);
        test("make: BAD before FULL", RefusalsTest::makeBadFirst);
        test("get: BAD before NO before LOST", RefusalsTest::getInOrder);
        test("put: BAD before NO before LOST", RefusalsTest::putInOrder);
        test("weak: BAD before NO", RefusalsTest::weakInOrder);
        test("pair: BAD before NO before FULL", RefusalsTest::pairInOrder);
        test("LOST: only the THING whose FIELD is asked for", RefusalsTest::lostElsewhere);
        finish();
    }

    /** Sets the scene twice; the refused call must leave the one as the other is. */
    private static void refused(String what, Runnable scene, Act act, int want) {
        scene.run();
        List<Long> told = Told.by(x);
        List<Long> goingOn = Told.goingOn(x);
        scene.run();
        due(what, act.now(), want);
        due(what + ": nothing is changed", Told.by(x).equals(told) ? 1 : 0, 1);
        due(what + ": nor goes on otherwise", Told.goingOn(x).equals(goingOn) ? 1 : 0, 1);
    }

    private static void hundredTwenty(int manner) {
        fresh(manner, 0);
        for (int thing = 0; thing < 120; thing++) {
            x.make(thing % 3, thing % 4, 0, thing % 3 == 0);
        }
        x.begin();
        x.sweep(3);
    }

    private static void makeOneMore() {
        for (int manner = 0; manner < 3; manner++) {
            int m = manner;
            refused("one more", () -> hundredTwenty(m), () -> x.make(0, 0, 0, true), FULL);
            refused("a great one", () -> hundredTwenty(m), () -> x.make(2, 3, 6, false), FULL);
        }
    }

    private static void noPlace(int manner) {
        fresh(manner, 0);
        for (int thing = 0; thing < 28; thing++) {
            x.make(thing % 3, thing % 4, 6, false);
        }
        x.make(0, 0, 1, true);
    }

    private static void makeWithoutPlace() {
        for (int manner = 0; manner < 4; manner++) {
            int m = manner;
            // two cells are left, in halves none
            refused("no place", () -> noPlace(m), () -> x.make(1, 1, 2, true), FULL);
            refused("by far", () -> noPlace(m), () -> x.make(0, 0, 6, false), FULL);
        }
    }

    /** 98 cells of white things; two gray ones of a cell each were moved. */
    private static void whiteOnes() {
        fresh(3, 0);
        things(0, 0);
        for (int thing = 2; thing < 16; thing++) {
            x.make(1, 0, 6, false);
        }
        x.drop(1, 0);
        x.begin();
    }

    private static void makeWhileMarking() {
        due("the scene: room", whiteAndLeft(), 0);
        refused("room for white ones", RefusalsTest::whiteOnes, () -> x.make(1, 1, 0, true), FULL);
        refused("the greatest", RefusalsTest::whiteOnes, () -> x.make(0, 0, 6, false), FULL);
    }

    /** How many cells are left beside those that white things need. */
    private static int whiteAndLeft() {
        whiteOnes();
        int left = x.count(5);
        for (int thing = 0; thing < x.count(0); thing++) {
            left -= x.about(thing, 2) == WHITE ? x.about(thing, 0) + 1 : 0;
        }
        return left;
    }

    /** Thing 1, of one field, is lost in register 1 of owner 1; thing 0 has a field; a round is under way, or none. */
    private static void oneIsLost(boolean marking) {
        fresh(1, 2);
        things(1);
        x.begin();
        x.make(1, 1, 1, false);
        x.sweep(400);
        x.weak(2, 0, 0);
        x.pair(0, 0, 0);
        if (marking) {
            x.begin();
        }
    }

    private static void getAndPut() {
        for (int round = 0; round < 2; round++) {
            boolean marking = round == 1;
            Runnable scene = () -> oneIsLost(marking);
            refused("get, nothing there", scene, () -> x.get(0, 0, 1, 0), NO);
            refused("get, no such field", scene, () -> x.get(0, 1, 0, 1), NO);
            refused("get, field -1", scene, () -> x.get(0, 1, 0, -1), NO);
            refused("get, freed", scene, () -> x.get(1, 1, 1, 0), LOST);
            refused("put, nothing there", scene, () -> x.put(0, 1, 0, 0), NO);
            refused("put, no such field", scene, () -> x.put(0, 0, 1, 0), NO);
            refused("put, field -1", scene, () -> x.put(0, 0, -1, 0), NO);
            refused("put, freed", scene, () -> x.put(1, 1, 0, 1), LOST);
            refused("put nothing, freed", scene, () -> x.put(1, 1, 0, 0), LOST);
        }
    }

    private static void weak() {
        refused("nothing over nothing", () -> oneIsLost(false), () -> x.weak(0, 0, 1), NO);
        refused("nothing over one", () -> oneIsLost(true), () -> x.weak(2, 0, 1), NO);
    }

    private static void eightPairs(boolean dropped) {
        fresh(2, 0);
        things(0, 0, 0);
        for (int pair = 0; pair < 8; pair++) {
            due("pair", x.pair(0, pair % 2, 2), pair);
        }
        if (dropped) {
            dropAll(0);
            round();
        }
    }

    private static void pair() {
        refused("no key", () -> oneIsLost(false), () -> x.pair(0, 1, 0), NO);
        refused("no value", () -> oneIsLost(true), () -> x.pair(0, 0, 1), NO);
        refused("the ninth", () -> eightPairs(false), () -> x.pair(0, 1, 2), FULL);
        refused("the ninth, though four are dropped", () -> eightPairs(true), () -> x.pair(0, 1, 2), FULL);
    }

    private static void begin() {
        for (int manner = 1; manner < 4; manner++) {
            int m = manner;
            for (int steps = 0; steps < (manner == 3 ? 3 : 7); steps++) {
                int done = steps;
                refused("after " + steps + " steps", () -> underWay(m, done), () -> x.begin(), NO);
            }
        }
    }

    /** Three things, of which one is held and another one is its value. */
    private static void underWay(int manner, int steps) {
        fresh(manner, 0);
        things(0, 0, 0);
        x.pair(0, 0, 2);
        dropAll(1, 2);
        x.begin();
        for (int step = 0; step < steps; step++) {
            x.sweep(1);
        }
    }

    private static void makeBadFirst() {
        for (Runnable scene : List.<Runnable>of(() -> hundredTwenty(0), () -> noPlace(1), () -> noPlace(3),
            RefusalsTest::whiteOnes)) {
            refused("FULL alone", scene, () -> x.make(2, 3, 6, false), FULL);
            refused("owner", scene, () -> x.make(3, 3, 6, false), BAD);
            refused("register", scene, () -> x.make(2, 4, 6, false), BAD);
            refused("n above", scene, () -> x.make(2, 3, 7, false), BAD);
            refused("n below", scene, () -> x.make(2, 3, -1, true), BAD);
        }
    }

    private static void getInOrder() {
        Runnable scene = () -> oneIsLost(true);
        refused("nothing there, owner BAD", scene, () -> x.get(3, 0, 1, 0), BAD);
        refused("nothing there, r BAD", scene, () -> x.get(0, 4, 1, 0), BAD);
        refused("no such field, r BAD", scene, () -> x.get(0, -1, 0, 1), BAD);
        refused("no such field, s BAD", scene, () -> x.get(0, 0, 4, 9), BAD);
        refused("freed, r BAD", scene, () -> x.get(1, 4, 1, 0), BAD);
        refused("freed, no such field, r BAD", scene, () -> x.get(1, 4, 1, 1), BAD);
        refused("freed, no such field", scene, () -> x.get(1, 0, 1, 1), NO);
        refused("freed, field -1", scene, () -> x.get(1, 0, 1, -1), NO);
        refused("nothing there, nor such a field", scene, () -> x.get(1, 0, 2, 7), NO);
        refused("freed", scene, () -> x.get(1, 0, 1, 0), LOST);
    }

    private static void putInOrder() {
        Runnable scene = () -> oneIsLost(true);
        refused("nothing there, owner BAD", scene, () -> x.put(3, 1, 0, 0), BAD);
        refused("nothing there, s BAD", scene, () -> x.put(0, 1, 0, 4), BAD);
        refused("no such field, s BAD", scene, () -> x.put(0, 0, 1, -1), BAD);
        refused("no such field, r BAD", scene, () -> x.put(0, 4, 9, 0), BAD);
        refused("freed, s BAD", scene, () -> x.put(1, 1, 0, 4), BAD);
        refused("freed, no such field, s BAD", scene, () -> x.put(1, 1, 1, 4), BAD);
        refused("freed, no such field", scene, () -> x.put(1, 1, 1, 1), NO);
        refused("freed, field -1", scene, () -> x.put(1, 1, -1, 1), NO);
        refused("nothing there, nor such a field", scene, () -> x.put(1, 2, 7, 0), NO);
        refused("freed", scene, () -> x.put(1, 1, 0, 0), LOST);
    }

    private static void weakInOrder() {
        Runnable scene = () -> oneIsLost(true);
        refused("nothing there, k BAD", scene, () -> x.weak(6, 0, 1), BAD);
        refused("nothing there, k below", scene, () -> x.weak(-1, 0, 1), BAD);
        refused("nothing there, owner BAD", scene, () -> x.weak(0, 3, 1), BAD);
        refused("nothing there", scene, () -> x.weak(5, 2, 3), NO);
    }

    private static void pairInOrder() {
        Runnable scene = () -> eightPairs(false);
        refused("the ninth, no key, owner BAD", scene, () -> x.pair(3, 3, 0), BAD);
        refused("the ninth, no key, s BAD", scene, () -> x.pair(0, 3, 4), BAD);
        refused("the ninth, no value, r BAD", scene, () -> x.pair(0, 4, 3), BAD);
        refused("the ninth, r BAD", scene, () -> x.pair(0, -1, 0), BAD);
        refused("the ninth, no key", scene, () -> x.pair(0, 3, 0), NO);
        refused("the ninth, no value", scene, () -> x.pair(0, 0, 3), NO);
        refused("the ninth", scene, () -> x.pair(0, 0, 0), FULL);
    }

    /** What is freed may be moved, stored, named, paired, put into another's field and dropped. */
    private static void lostElsewhere() {
        oneIsLost(false);
        due("move", x.move(1, 0, 1), 1);
        due("store", x.store(0, 1, 1), NONE);
        due("load", x.load(0, 1, 0), 1);
        due("same", x.same(0, 1, 1, 1), 1);
        due("weak", x.weak(0, 1, 1), 1);
        due("strong", x.strong(0, 2, 0), 1);
        due("pair", x.pair(0, 1, 1), 1);
        due("value", x.value(0, 3, 1), 1);
        due("put", x.put(0, 0, 0, 1), 1);
        due("get", x.get(2, 0, 0, 0), NO);
        due("get", x.get(0, 2, 0, 0), 1);
        due("drop", x.drop(1, 1), 1);
        due("lost still", x.lost(), 1);
    }
}
