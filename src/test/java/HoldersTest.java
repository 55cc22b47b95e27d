/** The edges of what holds things, names them or pairs them: one test for each sentence that names one. */
public final class HoldersTest extends Scene {
    public static void main(String[] args) {
        test("REGISTERS, SLOTS, WISHES, WEAK HOLDERS: nothing at first", HoldersTest::nothingAtFirst);
        test("move: NONE: nothing", HoldersTest::moveNothing);
        test("get: NONE: nothing", HoldersTest::getNothing);
        test("get: NO: a FIELD that must be is not", HoldersTest::getNoField);
        test("get: NO: a REGISTER that must hold a THING holds nothing", HoldersTest::getNoThing);
        test("get: LOST: the THING whose FIELD is asked for is FREED", HoldersTest::getLost);
        test("put: a FIELD holds nothing, or the THING itself", HoldersTest::putNothing);
        test("put: NO: a FIELD that must be is not", HoldersTest::putNoField);
        test("put: NO: a REGISTER that must hold a THING holds nothing", HoldersTest::putNoThing);
        test("put: LOST: the THING whose FIELD is asked for is FREED", HoldersTest::putLost);
        test("drop: what it held; NONE", HoldersTest::dropNothing);
        test("SLOTS 0 .. 3; store: what it held; NONE", HoldersTest::slots);
        test("load: its number; NONE", HoldersTest::loadNothing);
        test("same: 1, 0; both nothing: 1", HoldersTest::same);
        test("WEAK HOLDERS 0 .. 5 name a THING, or nothing", HoldersTest::weakHolders);
        test("weak: NO", HoldersTest::weakNothing);
        test("strong: NONE", HoldersTest::strongNothing);
        test("WEAK HOLDERS: none of these HOLDS", HoldersTest::weakDoesNotHold);
        test("PAIRS, numbered from 0 on, 8 at most ever", HoldersTest::eightPairs);
        test("pair: NO", HoldersTest::pairNothing);
        test("PAIRS: none of these HOLDS", HoldersTest::pairsDoNotHold);
        test("VALUES of PAIRS whose KEYS are REACHED, not KEYS whose VALUES are", HoldersTest::keysAreNotReached);
        test("value: BAD: there was none such", HoldersTest::noSuchPair);
        test("value: NONE: the PAIR was dropped, the REGISTER holds nothing then", HoldersTest::droppedPair);
        test("THE WISHES (a row, the first one first)", HoldersTest::wishesInARow);
        test("THE WISHES: as many as THINGS", HoldersTest::mostWishes);
        test("wish: NONE: there is none, the REGISTER holds what it held", HoldersTest::noWish);
        test("it has none any more", HoldersTest::wishOnce);
        test("REACHED: what is HELD", HoldersTest::reachedByHolders);
        test("REACHED: nothing, where nothing is HELD", HoldersTest::nothingReached);
        test("REACHED: what FIELDS of THINGS hold that are REACHED", HoldersTest::reachedByFields);
        test("REACHED: by more FIELDS than there can be THINGS", HoldersTest::reachedByMany);
        test("REACHED: VALUES of PAIRS whose KEYS are REACHED", HoldersTest::reachedByPairs);
        test("REACHED: not by FIELDS of THINGS that are FREED", HoldersTest::notReachedByFreed);
        test("REACHED: by PAIRS (not dropped), though the KEY be FREED", HoldersTest::reachedByFreedKey);
        test("REACHED: not by PAIRS that are dropped", HoldersTest::notReachedByDropped);
        finish();
    }

    private static void nothingAtFirst() {
        x = new AtticSweep();
        nothingIsThere();
        x = new AtticSweep();
        for (int k = 0; k < 12; k++) {
            x.make(k / 4, k % 4, 0, true);
            x.store(k % 4, k / 4, k % 4);
            x.weak(k % 6, k / 4, k % 4);
            x.pair(k / 4, k % 4, k % 4);
        }
        x.drop(0, 0);
        x.begin();
        due("a wish", x.count(11), 1);
        x.attic(0, 0);
        nothingIsThere();
    }

    private static void nothingIsThere() {
        for (int k = 0; k < 31; k++) {
            due("holder " + k, x.holder(k), NONE);
        }
        for (int k = 0; k < 6; k++) {
            due("weak holder " + k, x.strong(0, 0, k), NONE);
        }
        for (int k = 0; k < 4; k++) {
            due("slot " + k, x.load(0, 0, k), NONE);
        }
        due("pair 0", x.value(0, 0, 0), BAD);
        due("wishes", x.wish(0, 0), NONE);
        due("pairs", x.count(12), 0);
    }

    private static void moveNothing() {
        fresh(0, 0);
        due("from nothing to nothing", x.move(2, 3, 0), NONE);
        due("from nothing to itself", x.move(2, 3, 3), NONE);
        x.make(2, 3, 0, false);
        due("from the greatest register to the least", x.move(2, 0, 3), 0);
        holdersAre("both hold it", 8, 0, NONE, NONE, 0);
        due("nothing over it", x.move(2, 3, 1), NONE);
        holdersAre("one holds it", 8, 0, NONE, NONE, NONE);
        due("of another owner", x.move(1, 3, 0), NONE);
    }

    private static void getNothing() {
        fresh(0, 0);
        things(6, 0);
        due("nothing was put there", x.get(0, 1, 0, 5), NONE);
        due("the register holds nothing then", x.holder(1), NONE);
        due("into the register itself", x.get(0, 0, 0, 0), NONE);
        due("it holds nothing then", x.holder(0), NONE);
    }

    private static void getNoField() {
        for (int n = 0; n <= 6; n++) {
            fresh(0, 0);
            things(n);
            if (n > 0) {
                due("the least field", x.get(0, 1, 0, 0), NONE);
                due("the greatest field", x.get(0, 1, 0, n - 1), NONE);
            }
            x.make(0, 1, 0, false);
            for (int i : new int[] {n, n + 1, 7, -1, MOST, LEAST}) {
                due("field " + i + " of " + n, x.get(0, 1, 0, i), NO);
            }
            due("the register is as it was", x.holder(1), 1);
        }
    }

    private static void getNoThing() {
        fresh(0, 0);
        x.make(0, 1, 1, false);
        due("nothing in the register", x.get(0, 1, 0, 0), NO);
        due("the other is as it was", x.holder(1), 0);
        due("that of another owner", x.get(1, 1, 1, 0), NO);
    }

    private static void getLost() {
        lostInRegister();
        due("the freed one's field", x.get(1, 0, 1, 0), LOST);
        x.move(1, 0, 1);
        due("into its own register", x.get(1, 1, 1, 0), LOST);
        holdersAre("as they were", 4, 1, 1);
    }

    private static void putNothing() {
        fresh(0, 0);
        things(6);
        due("nothing over nothing", x.put(0, 0, 0, 1), 1);
        due("nothing there", x.field(0, 0), NONE);
        due("itself", x.put(0, 0, 5, 0), 1);
        due("itself there", x.field(0, 5), 0);
        due("nothing over it", x.put(0, 0, 5, 3), 1);
        due("nothing there", x.field(0, 5), NONE);
    }

    private static void putNoField() {
        for (int n = 0; n <= 6; n++) {
            fresh(0, 0);
            things(n, 6);
            if (n > 0) {
                due("the least field", x.put(0, 0, 0, 1), 1);
                due("the greatest field", x.put(0, 0, n - 1, 1), 1);
            }
            for (int i : new int[] {n, n + 1, 7, -1, MOST, LEAST}) {
                due("field " + i + " of " + n, x.put(0, 0, i, 1), NO);
            }
            for (int i = 0; i < 6; i++) {
                due("the next thing's field " + i, x.field(1, i), NONE);
            }
        }
    }

    private static void putNoThing() {
        fresh(0, 0);
        x.make(0, 1, 1, false);
        due("nothing in the register", x.put(0, 0, 0, 1), NO);
        due("the other thing is as it was", x.field(0, 0), NONE);
        due("nothing in either", x.put(0, 2, 0, 3), NO);
    }

    private static void putLost() {
        lostInRegister();
        due("the freed one's field", x.put(1, 1, 0, 1), LOST);
        due("nothing into it", x.put(1, 1, 0, 0), LOST);
        due("it is as it was", x.field(1, 0), NONE);
        x.make(1, 2, 1, false);
        due("the freed one into another's field", x.put(1, 2, 0, 1), 1);
        due("it is there", x.field(2, 0), 1);
        due("it is read from there", x.get(1, 3, 2, 0), 1);
    }

    private static void dropNothing() {
        fresh(0, 0);
        due("nothing", x.drop(0, 0), NONE);
        for (int k = 0; k < 12; k++) {
            x.make(k / 4, k % 4, 0, false);
        }
        for (int k = 0; k < 12; k++) {
            due("what it held", x.drop(k / 4, k % 4), k);
            due("nothing any more", x.holder(k), NONE);
            due("nothing", x.drop(k / 4, k % 4), NONE);
        }
    }

    private static void slots() {
        fresh(0, 0);
        things(0, 0);
        for (int k = 0; k < 4; k++) {
            due("nothing in nothing", x.store(k, 1, 0), NONE);
            due("the first", x.store(k, 0, 0), NONE);
            due("over it", x.store(k, 0, 1), 0);
            due("the slot", x.holder(12 + k), 1);
            due("the next is as it was", x.holder(13 + k), NONE);
            due("nothing over it", x.store(k, 1, 0), 1);
            due("the slot holds nothing", x.holder(12 + k), NONE);
            due("the register holds what it held", x.holder(1), 1);
        }
    }

    private static void loadNothing() {
        fresh(0, 0);
        things(0, 0);
        x.store(0, 0, 0);
        x.store(3, 0, 1);
        due("the least", x.load(2, 3, 0), 0);
        due("the greatest", x.load(2, 3, 3), 1);
        due("the register", x.holder(11), 1);
        due("nothing", x.load(2, 3, 1), NONE);
        due("the register holds nothing then", x.holder(11), NONE);
        holdersAre("the slots are as they were", 12, 0, NONE, NONE, 1);
    }

    private static void same() {
        fresh(0, 0);
        x.make(0, 0, 0, false);
        x.make(2, 3, 0, false);
        due("both nothing", x.same(0, 3, 2, 0), 1);
        due("one and nothing", x.same(0, 0, 2, 0), 0);
        due("nothing and one", x.same(1, 0, 0, 0), 0);
        due("one and another", x.same(0, 0, 2, 3), 0);
        due("itself", x.same(2, 3, 2, 3), 1);
        x.store(0, 0, 0);
        x.load(2, 3, 0);
        due("the same", x.same(0, 0, 2, 3), 1);
    }

    private static void weakHolders() {
        fresh(0, 0);
        things(0, 0);
        for (int k = 0; k < 6; k++) {
            due("nothing at first", x.holder(16 + k), NONE);
            due("one", x.weak(k, 0, 0), 1);
            due("it is named", x.holder(16 + k), 0);
            due("another over it", x.weak(k, 0, 1), 1);
            due("that is named", x.strong(1, 0, k), 1);
        }
        due("the pairs are as they were", x.holder(22), NONE);
        due("the greatest slot is as it was", x.holder(15), NONE);
    }

    private static void weakNothing() {
        fresh(0, 0);
        due("nothing", x.weak(0, 0, 0), NO);
        due("none is named", x.holder(16), NONE);
        things(0);
        x.weak(5, 0, 0);
        due("nothing over one", x.weak(5, 0, 1), NO);
        due("that one is named still", x.holder(21), 0);
    }

    private static void strongNothing() {
        fresh(0, 0);
        things(0);
        x.weak(2, 0, 0);
        due("the one below it", x.strong(0, 0, 1), NONE);
        due("the register holds nothing then", x.holder(0), NONE);
        due("it is named still, but waste", x.count(4), 1);
        due("what is waste is read still", x.strong(0, 0, 2), 0);
        due("the one above it", x.strong(0, 0, 3), NONE);
    }

    private static void weakDoesNotHold() {
        for (int manner = 0; manner < 4; manner++) {
            fresh(manner, 0);
            things(0, 0);
            x.weak(0, 0, 0);
            x.weak(4, 0, 0);
            x.weak(5, 0, 1);
            dropAll(0);
            due("not reached", x.about(0, 4), 0);
            due("one is reached", x.count(2), 1);
            round();
            due("it is freed", x.about(0, 3), 1);
            holdersAre("named", 16, NONE, NONE, NONE, NONE, NONE, 1);
            due("strong", x.strong(0, 1, 0), NONE);
            due("the register holds nothing then", x.holder(1), NONE);
        }
    }

    private static void eightPairs() {
        for (int manner = 0; manner < 4; manner++) {
            fresh(manner, 0);
            things(0);
            for (int pair = 0; pair < 8; pair++) {
                due("a pair that is not yet", x.value(1, 0, pair), BAD);
                due("pair", x.pair(0, 0, 0), pair);
                due("its key", x.holder(22 + pair), 0);
            }
            due("the ninth", x.pair(0, 0, 0), FULL);
            due("pairs", x.count(12), 8);
            dropAll(0);
            round();
            due("all are dropped", x.count(12), 0);
            x.make(0, 0, 0, false);
            due("8 at most ever", x.pair(0, 0, 0), FULL);
            due("pairs", x.count(12), 0);
            due("the last of them", x.value(0, 1, 7), NONE);
            due("none behind it", x.value(0, 1, 8), BAD);
            x.attic(manner, 0);
            x.make(0, 0, 0, false);
            due("in the next attic", x.pair(0, 0, 0), 0);
        }
    }

    private static void pairNothing() {
        fresh(0, 0);
        due("nothing and nothing", x.pair(0, 0, 0), NO);
        things(0);
        due("nothing as key", x.pair(0, 1, 0), NO);
        due("nothing as value", x.pair(0, 0, 1), NO);
        due("another owner's", x.pair(1, 0, 0), NO);
        due("none was made", x.count(12), 0);
        due("the first", x.pair(0, 0, 0), 0);
    }

    private static void pairsDoNotHold() {
        for (int manner = 0; manner < 4; manner++) {
            fresh(manner, 0);
            things(0, 0, 0);
            x.pair(0, 0, 1);
            x.pair(0, 2, 0);
            dropAll(0, 1);
            due("the value of the one that is held, and that one's value", x.count(2), 3);
            round();
            due("none is freed", x.count(1), 3);
            dropAll(2);
            due("none is reached", x.count(2), 0);
            due("all are waste", x.count(4), 3);
            round();
            due("all are freed", x.count(1), 0);
            due("both pairs are dropped", x.count(12), 0);
            holdersAre("keys", 22, NONE, NONE);
        }
    }

    private static void keysAreNotReached() {
        for (int manner = 0; manner < 4; manner++) {
            fresh(manner, 0);
            things(0, 0);
            x.pair(0, 0, 1);
            dropAll(0);
            due("the key", x.about(0, 4), 0);
            due("the value", x.about(1, 4), 1);
            round();
            due("the key is freed", x.about(0, 3), 1);
            due("the pair is dropped", x.count(12), 0);
            due("the value is kept", x.about(1, 3), 0);
            due("it is not read as a value any more", x.value(0, 0, 0), NONE);
        }
    }

    private static void noSuchPair() {
        fresh(0, 0);
        things(0);
        due("none at all", x.value(0, 0, 0), BAD);
        x.pair(0, 0, 0);
        x.pair(0, 0, 0);
        due("the least", x.value(0, 1, 0), 0);
        due("the greatest", x.value(0, 1, 1), 0);
        for (int pair : new int[] {-1, 2, 7, 8, MOST, LEAST}) {
            due("pair " + pair, x.value(0, 1, pair), BAD);
        }
        due("the register is as it was", x.holder(1), 0);
    }

    private static void droppedPair() {
        for (int manner = 0; manner < 4; manner++) {
            fresh(manner, 0);
            things(0, 0, 0);
            x.pair(0, 0, 1);
            x.pair(0, 2, 1);
            dropAll(0);
            round();
            due("one is left", x.count(12), 1);
            holdersAre("keys", 22, NONE, 2);
            due("dropped", x.value(0, 2, 0), NONE);
            holdersAre("the register", 1, 1, NONE);
            due("the other is read", x.value(0, 2, 1), 1);
        }
    }

    private static void wishesInARow() {
        for (int manner = 0; manner < 4; manner++) {
            fresh(manner, 0);
            x.make(0, 2, 0, true);
            x.make(0, 1, 0, false);
            x.make(0, 0, 0, true);
            dropAll(0, 1, 2);
            round();
            holdersAre("by numbers", 30, 0, 2, NONE);
            due("wishes", x.count(11), 2);
            x.make(0, 0, 0, true);
            dropAll(0);
            round();
            holdersAre("the new one at the end", 30, 0, 2, 3, NONE);
            due("the first", x.wish(2, 3), 0);
            holdersAre("the rest", 30, 2, 3, NONE);
            due("wishes", x.count(11), 2);
            due("the next", x.wish(2, 3), 2);
            due("the last", x.wish(2, 2), 3);
            holdersAre("the registers", 10, 3, 2);
            holdersAre("none is left", 30, NONE, NONE);
        }
    }

    private static void mostWishes() {
        for (int manner = 0; manner < 3; manner++) {
            fresh(manner, 0);
            for (int thing = 0; thing < 120; thing++) {
                x.make(0, 0, 0, true);
            }
            dropAll(0);
            round();
            due("none is freed", x.count(1), 120);
            due("all are reached", x.count(2), 120);
            due("wishes", x.count(11), 120);
            due("the last", x.holder(149), 119);
            due("none behind it", x.holder(150), NONE);
            for (int thing = 0; thing < 120; thing++) {
                due("in order", x.wish(0, 0), thing);
            }
            due("none is left", x.wish(0, 0), NONE);
            due("the last is held", x.holder(0), 119);
            due("it alone is reached", x.count(2), 1);
        }
    }

    private static void noWish() {
        fresh(0, 0);
        due("none, and nothing", x.wish(0, 0), NONE);
        due("nothing still", x.holder(0), NONE);
        x.make(0, 0, 0, true);
        due("the one that is held has its wish still", x.wish(0, 0), NONE);
        due("it is held still", x.holder(0), 0);
        due("with its wish", x.about(0, 5), 1);
    }

    private static void wishOnce() {
        for (int manner = 0; manner < 4; manner++) {
            fresh(manner, 0);
            x.make(0, 0, 0, true);
            round();
            due("held: it has it still", x.about(0, 5), 1);
            due("and is no wish", x.count(11), 0);
            dropAll(0);
            round();
            due("it has none any more", x.about(0, 5), 0);
            round();
            due("it is held by the wishes", x.about(0, 3), 0);
            due("once", x.count(11), 1);
            x.wish(0, 0);
            dropAll(0);
            round();
            due("it is freed", x.about(0, 3), 1);
            due("no wish", x.count(11), 0);
        }
    }

    private static void reachedByHolders() {
        fresh(0, 0);
        for (int k = 0; k < 12; k++) {
            x.make(k / 4, k % 4, 0, false);
            due("register " + k, x.about(k, 4), 1);
            dropAll(k);
            due("it holds nothing", x.about(k, 4), 0);
        }
        for (int k = 0; k < 4; k++) {
            x.make(0, 0, 0, false);
            x.store(k, 0, 0);
            dropAll(0);
            due("slot " + k, x.about(12 + k, 4), 1);
            x.store(k, 0, 0);
            due("it holds nothing", x.about(12 + k, 4), 0);
        }
        x.make(0, 0, 0, true);
        dropAll(0);
        due("not while it is no wish yet", x.about(16, 4), 0);
        x.begin();
        due("the wishes", x.about(16, 4), 1);
        x.wish(0, 0);
        dropAll(0);
        due("it went from these", x.about(16, 4), 0);
    }

    private static void nothingReached() {
        fresh(0, 0);
        due("no thing", x.count(2), 0);
        things(1, 1, 0);
        x.put(0, 0, 0, 1);
        x.put(0, 1, 0, 2);
        dropAll(0, 1, 2);
        due("none is held", x.count(2), 0);
        due("all are waste", x.count(4), 3);
        for (int thing = 0; thing < 3; thing++) {
            due("thing " + thing, x.about(thing, 4), 0);
        }
    }

    private static void reachedByFields() {
        fresh(0, 0);
        things(1, 6, 1, 1);
        x.put(0, 0, 0, 1);
        x.put(0, 1, 5, 2);
        x.put(0, 2, 0, 0);
        dropAll(1, 2, 3);
        due("a ring of three", x.count(2), 3);
        due("one beside it", x.about(3, 4), 0);
        due("that is freed", x.begin(), 1);
        dropAll(0);
        due("the ring is not held", x.count(2), 0);
        due("it is freed", x.begin(), 3);
    }

    private static void reachedByMany() {
        fresh(0, 0);
        x.make(0, 0, 0, false);
        x.make(0, 2, 0, false);
        for (int thing = 2; thing < 26; thing++) {
            x.make(0, 1, 6, false);
            for (int i = 0; i < 5; i++) {
                x.put(0, 1, i, 0);
            }
            x.put(0, 1, 5, 2);
            x.move(0, 2, 1);
        }
        dropAll(0, 1);
        due("all are reached", x.count(2), 26);
        due("the first", x.about(0, 4), 1);
        due("the end of the chain", x.about(1, 4), 1);
        due("none is freed", x.begin(), 0);
    }

    private static void reachedByPairs() {
        fresh(0, 0);
        things(1, 0, 0, 0, 0);
        x.pair(0, 3, 3);
        x.pair(0, 2, 3);
        x.pair(0, 1, 2);
        x.put(0, 0, 0, 1);
        dropAll(1, 2, 3, 4);
        due("a pair by a later one, and that by a field", x.count(2), 4);
        due("the last value", x.about(3, 4), 1);
        due("what is in no pair", x.about(4, 4), 0);
        x.put(0, 0, 0, 1);
        due("without the first key", x.count(2), 1);
    }

    private static void notReachedByFreed() {
        fresh(1, 2);
        x.begin();
        x.make(0, 0, 1, false);
        x.make(0, 1, 0, false);
        x.put(0, 0, 0, 1);
        dropAll(1);
        due("reached by a field", x.about(1, 4), 1);
        x.sweep(400);
        due("both are freed", x.count(1), 0);
        due("held", x.about(0, 4), 1);
        due("not by the field of the freed one", x.about(1, 4), 0);
        due("which holds it still", x.field(0, 0), 1);
        due("one is lost", x.count(3), 1);
    }

    private static void reachedByFreedKey() {
        fresh(1, 2);
        things(0);
        x.begin();
        x.sweep(2);
        due("sweeping", x.under(), 2);
        x.make(0, 1, 0, false);
        due("a white key", x.pair(0, 1, 0), 0);
        dropAll(0);
        x.sweep(400);
        due("the key is freed", x.about(1, 3), 1);
        due("the pair is not dropped", x.count(12), 1);
        due("its value", x.about(0, 4), 1);
        due("both", x.count(2), 2);
    }

    private static void notReachedByDropped() {
        fresh(1, 2);
        things(0);
        x.store(0, 0, 0);
        x.begin();
        x.make(0, 1, 0, false);
        due("a white key", x.pair(0, 1, 0), 0);
        dropAll(0);
        x.sweep(400);
        due("the key is freed", x.about(1, 3), 1);
        due("it is held", x.about(1, 4), 1);
        due("the pair is dropped", x.count(12), 0);
        due("the value is held by a slot", x.about(0, 4), 1);
        due("which holds nothing then", x.store(0, 0, 0), 0);
        due("not by the dropped pair", x.about(0, 4), 0);
    }
}
