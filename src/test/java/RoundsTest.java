/** The edges of a round, its steps and its colours: one test for each sentence that names one. */
public final class RoundsTest extends Scene {
    public static void main(String[] args) {
        test("A new THING is BLACK while a ROUND is under way, else WHITE", RoundsTest::colourOfNew);
        test("TO SHADE: if it is WHITE (and not FREED) it becomes GRAY", RoundsTest::shadedOnce);
        test("TO SHADE: not a FREED one", RoundsTest::freedIsNotShaded);
        test("in MANNER 3 it is MOVED, too", RoundsTest::moved);
        test("A ROUND begins: all that are not FREED become WHITE", RoundsTest::allBecomeWhite);
        test("SHADED, by OWNERS, REGISTERS, then SLOTS, then WISHES", RoundsTest::orderOfHolders);
        test("begin: how many THINGS are GRAY then; none", RoundsTest::emptyRound);
        test("begin: as many as can be GRAY", RoundsTest::manyGray);
        test("begin: NO: one is under way", RoundsTest::oneIsUnderWay);
        test("MANNER 0: a ROUND does all its STEPS as it begins", RoundsTest::allAtOnce);
        test("A STEP of MARKING: the least GRAY THING", RoundsTest::leastGray);
        test("what its FIELDS hold is SHADED, in order", RoundsTest::fieldsInOrder);
        test("a THING that its own FIELD holds becomes BLACK", RoundsTest::holdsItself);
        test("1 in MANNER 2 what is HELD is SHADED (and then no further one)", RoundsTest::heldAgain);
        test("in MANNER 2, not in MANNERS 1 and 3", RoundsTest::notHeldAgain);
        test("2 VALUES, and then no further one", RoundsTest::valuesBeforeWishes);
        test("the first of these that makes one GRAY: 2 makes none", RoundsTest::valuesMakeNoneGray);
        test("of PAIRS whose KEY is not WHITE", RoundsTest::whiteKey);
        test("3 of THINGS that have a LAST WISH, by numbers, each", RoundsTest::wishesByNumbers);
        test("3 of THINGS that are WHITE and not FREED", RoundsTest::wishesOfWhite);
        test("If none does: WEAK HOLDERS, PAIRS, and SWEEPING is under way", RoundsTest::endOfMarking);
        test("in MANNER 3 all WHITE THINGS are FREED at once, and the ROUND is over", RoundsTest::endInHalves);
        test("A STEP of SWEEPING: the next THING that is not FREED", RoundsTest::sweepingByNumbers);
        test("A STEP of SWEEPING: what came since", RoundsTest::sweepingNewOnes);
        test("If there was none left, the ROUND is over", RoundsTest::noneLeft);
        test("sweep: up to n (1 .. 400) STEPS", RoundsTest::upTo);
        test("sweep: 0: none is under way", RoundsTest::noneUnderWay);
        test("sweep: a long ROUND", RoundsTest::longRound);
        test("under: 0 nothing, 1 MARKING, 2 SWEEPING", RoundsTest::under);
        test("count 7: ROUNDS that were over", RoundsTest::roundsOver);
        test("count 8 and 9: of the ROUND under way or latest", RoundsTest::stepsAndShaded);
        test("attic: An empty ATTIC, though a ROUND is under way", RoundsTest::atticInTheMidst);
        finish();
    }

    private static void colourOfNew() {
        for (int manner = 0; manner < 4; manner++) {
            fresh(manner, 0);
            things(0);
            coloursAre("before the first round", WHITE);
            if (manner == 0) {
                x.begin();
                x.make(0, 1, 0, false);
                coloursAre("when a round is over", BLACK, WHITE);
                continue;
            }
            x.begin();
            x.make(0, 1, 0, false);
            coloursAre("as it begins", GRAY, BLACK);
            x.sweep(1);
            x.make(0, 2, 0, false);
            coloursAre("before the last step of marking", BLACK, BLACK, BLACK);
            x.sweep(1);
            due("marking is over", x.under(), manner == 3 ? 0 : 2);
            x.make(0, 3, 0, false);
            coloursAre("behind it", BLACK, BLACK, BLACK, manner == 3 ? WHITE : BLACK);
            x.sweep(400);
            x.make(1, 0, 0, false);
            due("when the round is over", x.about(4, 2), WHITE);
        }
    }

    private static void shadedOnce() {
        for (int manner = 0; manner < 4; manner++) {
            fresh(manner, 0);
            things(2);
            x.put(0, 0, 0, 0);
            x.put(0, 0, 1, 0);
            x.move(0, 1, 0);
            x.store(0, 0, 0);
            x.pair(0, 0, 0);
            due("one gray, or none freed", x.begin(), manner == 0 ? 0 : 1);
            x.sweep(400);
            due("shaded", x.count(9), 1);
            due("moved", x.about(0, 6), manner == 3 ? 1 : 0);
            due("black", x.about(0, 2), BLACK);
        }
    }

    private static void freedIsNotShaded() {
        lostInRegister();
        x.store(0, 1, 1);
        dropAll(0);
        x.make(0, 1, 2, false);
        x.move(1, 0, 1);
        due("held, but not gray", x.begin(), 1);
        due("the freed one is white", x.about(1, 2), WHITE);
        due("it has no place", x.about(1, 1), NONE);
        x.sweep(400);
        due("it is white still", x.about(1, 2), WHITE);
        due("shaded", x.count(9), 1);
        due("lost still", x.lost(), 1);
    }

    private static void moved() {
        fresh(3, 0);
        things(2, 6, 0);
        dropAll(1);
        x.begin();
        placesAre(100, 3, 103);
        due("moved", x.about(0, 6), 1);
        due("not moved", x.about(1, 6), 0);
        due("moved ever", x.count(10), 2);
        x.sweep(400);
        x.begin();
        placesAre(0, NONE, 3);
        due("moved again", x.about(0, 6), 2);
        due("the freed one is not", x.about(1, 6), 0);
        due("moved ever, two rounds", x.count(10), 4);
        x.sweep(400);
        dropAll(0, 2);
        round();
        due("none is moved", x.count(10), 4);
        due("of the freed one", x.about(0, 6), 2);
    }

    private static void allBecomeWhite() {
        for (int manner = 1; manner < 4; manner++) {
            fresh(manner, 0);
            things(0, 0, 0);
            dropAll(2);
            x.begin();
            x.make(0, 3, 0, false);
            x.sweep(400);
            coloursAre("it is over", BLACK, BLACK, WHITE, BLACK);
            dropAll(1, 3);
            x.begin();
            coloursAre("the next begins", GRAY, WHITE, WHITE, WHITE);
        }
    }

    private static void orderOfHolders() {
        fresh(3, 0);
        x.make(2, 3, 0, true);
        x.make(2, 2, 0, true);
        dropAll(10, 11);
        round();
        holdersAre("wishes", 30, 0, 1);
        x.make(0, 0, 0, false);
        x.store(3, 0, 0);
        x.make(0, 0, 0, false);
        x.store(0, 0, 0);
        dropAll(0);
        x.make(2, 3, 0, false);
        x.make(1, 0, 0, false);
        x.make(0, 3, 0, false);
        x.make(0, 1, 0, false);
        due("gray", x.begin(), 8);
        placesAre(6, 7, 5, 4, 3, 2, 1, 0);
    }

    private static void emptyRound() {
        int[] steps = {2, 2, 2, 1};
        for (int manner = 0; manner < 4; manner++) {
            fresh(manner, 0);
            due("no step yet", x.count(8), 0);
            due("none", x.begin(), 0);
            due("sweep", x.sweep(400), manner == 0 ? 0 : steps[manner]);
            due("steps", x.count(8), steps[manner]);
            due("shaded", x.count(9), 0);
            due("rounds", x.count(7), 1);
            due("under", x.under(), 0);
            things(0, 0);
            dropAll(0, 1);
            due("none is held", x.begin(), manner == 0 ? 2 : 0);
            x.sweep(400);
            due("steps, with two to sweep", x.count(8), manner == 3 ? 1 : 4);
            due("both are freed", x.count(1), 0);
        }
    }

    private static void manyGray() {
        for (int manner = 1; manner < 4; manner++) {
            fresh(manner, 0);
            for (int k = 0; k < 4; k++) {
                x.make(0, 0, 0, false);
                x.store(k, 0, 0);
            }
            for (int k = 0; k < 12; k++) {
                x.make(k / 4, k % 4, 0, false);
            }
            due("in registers and slots", x.begin(), 16);
        }
        fresh(1, 0);
        for (int thing = 0; thing < 120; thing++) {
            x.make(0, 0, 0, true);
        }
        dropAll(0);
        due("none is held", x.begin(), 0);
        x.sweep(400);
        due("all are wishes", x.begin(), 120);
    }

    private static void oneIsUnderWay() {
        for (int manner = 1; manner < 4; manner++) {
            fresh(manner, 0);
            things(0);
            due("none is under way", x.begin(), 1);
            int steps = manner == 3 ? 2 : 4;
            for (int done = 0; done < steps; done++) {
                due("after " + done + " steps", x.begin(), NO);
                due("rounds", x.count(7), 0);
                due("steps", x.count(8), done);
                due("a step", x.sweep(1), 1);
            }
            due("it is over", x.begin(), 1);
        }
        fresh(0, 0);
        due("manner 0", x.begin(), 0);
        due("manner 0, at once again", x.begin(), 0);
        due("rounds", x.count(7), 2);
    }

    private static void allAtOnce() {
        fresh(0, 0);
        things(0, 0, 0);
        dropAll(0, 2);
        due("how many it freed", x.begin(), 2);
        due("nothing is under way", x.under(), 0);
        due("a round", x.count(7), 1);
        due("steps", x.count(8), 1 + 1 + 3 + 1);
        due("shaded", x.count(9), 1);
        coloursAre("it is over", WHITE, BLACK, WHITE);
        due("none is left to free", x.begin(), 0);
        due("steps, freed ones are passed over", x.count(8), 1 + 1 + 1 + 1);
        x.attic(0, 0);
        for (int thing = 0; thing < 120; thing++) {
            x.make(0, 0, 0, false);
        }
        dropAll(0);
        due("as many as can be", x.begin(), 120);
        due("steps", x.count(8), 1 + 120 + 1);
    }

    private static void leastGray() {
        for (int manner = 1; manner < 4; manner++) {
            fresh(manner, 0);
            things(0, 1, 0);
            x.put(0, 1, 0, 0);
            dropAll(0);
            x.begin();
            coloursAre("as it begins", WHITE, GRAY, GRAY);
            x.sweep(1);
            coloursAre("the least", GRAY, BLACK, GRAY);
            x.sweep(1);
            coloursAre("that which came to be the least", BLACK, BLACK, GRAY);
            x.sweep(1);
            coloursAre("the last", BLACK, BLACK, BLACK);
        }
    }

    private static void fieldsInOrder() {
        fresh(3, 0);
        things(6, 0, 0, 0);
        x.put(0, 0, 0, 3);
        x.put(0, 0, 2, 1);
        x.put(0, 0, 3, 0);
        x.put(0, 0, 4, 3);
        x.put(0, 0, 5, 2);
        dropAll(1, 2, 3);
        due("one is gray", x.begin(), 1);
        x.sweep(1);
        placesAre(100, 108, 109, 107);
        coloursAre("one step", BLACK, GRAY, GRAY, GRAY);
        due("shaded", x.count(9), 4);
    }

    private static void holdsItself() {
        for (int manner = 1; manner < 4; manner++) {
            fresh(manner, 0);
            things(1);
            x.put(0, 0, 0, 0);
            x.begin();
            x.sweep(1);
            coloursAre("one step", BLACK);
            due("shaded", x.count(9), 1);
            x.sweep(1);
            due("marking is over", x.under(), manner == 3 ? 0 : 2);
        }
    }

    /** Thing 0 is black, 1 its pair's value, 2 held but not noted, 3 has a wish, and none is gray. */
    private static void noneIsGray(int manner, int fault) {
        fresh(manner, fault);
        things(1, 0, 0);
        x.make(0, 3, 0, true);
        x.put(0, 0, 0, 2);
        x.pair(0, 0, 1);
        dropAll(1, 2, 3);
        x.begin();
        x.get(0, 2, 0, 0);
        x.put(0, 0, 0, 3);
        x.sweep(1);
        coloursAre("none is gray", BLACK, WHITE, WHITE, WHITE);
    }

    private static void heldAgain() {
        for (int fault = 0; fault < 2; fault++) {
            noneIsGray(2, fault);
            due("a step", x.sweep(1), 1);
            coloursAre("what is held", BLACK, WHITE, GRAY, WHITE);
            x.sweep(2);
            coloursAre("what is held makes none gray: values", BLACK, GRAY, BLACK, WHITE);
            x.sweep(2);
            coloursAre("nor do values: wishes", BLACK, BLACK, BLACK, GRAY);
            x.sweep(2);
            due("nor do wishes", x.under(), 2);
            due("steps", x.count(8), 8);
        }
    }

    private static void notHeldAgain() {
        for (int manner = 1; manner < 4; manner += 2) {
            noneIsGray(manner, 1);
            x.sweep(1);
            coloursAre("not what is held", BLACK, GRAY, WHITE, WHITE);
            x.sweep(400);
            due("it is lost", x.lost(), 2);
        }
    }

    private static void valuesBeforeWishes() {
        for (int manner = 1; manner < 4; manner++) {
            fresh(manner, 0);
            things(0, 0);
            x.make(0, 2, 0, true);
            x.pair(0, 0, 1);
            dropAll(1, 2);
            x.begin();
            x.sweep(2);
            coloursAre("the value", BLACK, GRAY, WHITE);
            due("no wish", x.count(11), 0);
            x.sweep(2);
            coloursAre("then the wish", BLACK, BLACK, GRAY);
            due("a wish", x.count(11), 1);
        }
    }

    private static void valuesMakeNoneGray() {
        for (int manner = 1; manner < 4; manner++) {
            fresh(manner, 0);
            things(0, 0);
            x.make(0, 2, 0, true);
            x.pair(0, 0, 1);
            dropAll(2);
            x.begin();
            x.sweep(3);
            coloursAre("the value was black: the wish, in this step", BLACK, BLACK, GRAY);
            due("steps", x.count(8), 3);
            x.sweep(2);
            due("nor does the wish make one gray again", x.under(), manner == 3 ? 0 : 2);
        }
    }

    private static void whiteKey() {
        for (int manner = 1; manner < 4; manner++) {
            fresh(manner, 0);
            things(0, 0, 0);
            x.pair(0, 1, 2);
            x.pair(0, 2, 1);
            dropAll(1, 2);
            x.begin();
            x.sweep(2);
            due("neither key is marked", x.under(), manner == 3 ? 0 : 2);
            due("both are dropped", x.count(12), 0);
            x.sweep(400);
            due("both things are freed", x.count(1), 1);
        }
        fresh(1, 0);
        things(0);
        x.begin();
        x.sweep(1);
        x.make(0, 1, 0, false);
        x.weak(0, 0, 1);
        due("a new key is black", x.pair(0, 1, 0), 0);
        dropAll(0, 1);
        x.sweep(400);
        due("it is not dropped", x.count(12), 1);
        due("it is named still", x.holder(16), 1);
    }

    private static void wishesByNumbers() {
        for (int manner = 1; manner < 4; manner++) {
            fresh(manner, 0);
            x.make(0, 3, 0, true);
            x.make(0, 2, 1, true);
            x.make(0, 1, 0, false);
            x.make(0, 0, 0, true);
            x.put(0, 2, 0, 3);
            dropAll(0, 1, 2, 3);
            due("none is held", x.begin(), 0);
            due("a step", x.sweep(1), 1);
            coloursAre("each, also one that another of them holds", GRAY, GRAY, WHITE, GRAY);
            holdersAre("by numbers", 30, 0, 1, 3, NONE);
            if (manner == 3) {
                placesAre(100, 101, 3, 103);
            }
            for (int thing = 0; thing < 4; thing++) {
                due("a wish any more", x.about(thing, 5), 0);
            }
        }
    }

    private static void wishesOfWhite() {
        for (int manner = 1; manner < 4; manner++) {
            fresh(manner, 0);
            x.make(0, 0, 0, true);
            x.begin();
            x.make(0, 1, 0, true);
            dropAll(1);
            x.sweep(400);
            due("the held one has it still", x.about(0, 5), 1);
            due("the new one was black: it has it still", x.about(1, 5), 1);
            due("no wish", x.count(11), 0);
            round();
            due("not held, and white: a wish", x.holder(30), 1);
            due("the held one has it still", x.about(0, 5), 1);
        }
        fresh(1, 2);
        x.begin();
        x.sweep(1);
        x.make(0, 0, 0, true);
        x.sweep(400);
        due("it is freed with its wish", x.about(0, 3) + x.about(0, 5), 2);
        round();
        due("a freed one's wish", x.count(11), 0);
        due("it has it still", x.about(0, 5), 1);
    }

    private static void endOfMarking() {
        for (int manner = 1; manner < 3; manner++) {
            fresh(manner, 0);
            things(0, 0, 0);
            x.weak(0, 0, 0);
            x.weak(1, 0, 1);
            x.weak(5, 0, 1);
            x.pair(0, 0, 0);
            x.pair(0, 1, 0);
            dropAll(1, 2);
            x.begin();
            x.sweep(1);
            holdersAre("none is gray", 16, 0, 1, NONE, NONE, NONE, 1, 0, 1);
            due("marking", x.under(), 1);
            due("one step", x.sweep(1), 1);
            due("sweeping", x.under(), 2);
            holdersAre("white ones go", 16, 0, NONE, NONE, NONE, NONE, NONE, 0, NONE);
            due("none is freed yet", x.count(1), 3);
            due("pairs", x.count(12), 1);
            due("it is not over", x.count(7), 0);
        }
    }

    private static void endInHalves() {
        fresh(3, 0);
        things(0, 1, 2, 0);
        x.weak(3, 0, 1);
        x.pair(0, 2, 0);
        dropAll(1, 2);
        x.begin();
        x.sweep(2);
        cellsAre(0, NONE, 1, 1, 2, 2, 2, NONE);
        due("none is freed yet", x.count(1), 4);
        due("the last step", x.sweep(400), 1);
        due("it is over", x.under(), 0);
        due("a round", x.count(7), 1);
        due("two are freed at once", x.count(1), 2);
        cellsAre(0, NONE, NONE, NONE, NONE, NONE, NONE, NONE);
        cellsAre(100, 0, 3, NONE);
        placesAre(100, NONE, NONE, 101);
        due("named no more", x.holder(19), NONE);
        due("dropped", x.holder(22), NONE);
    }

    private static void sweepingByNumbers() {
        for (int manner = 1; manner < 3; manner++) {
            fresh(manner, 0);
            things(0, 0, 0, 0);
            dropAll(0, 2);
            x.begin();
            x.sweep(3);
            int[] left = {3, 3, 2, 2};
            for (int thing = 0; thing < 4; thing++) {
                due("sweeping", x.under(), 2);
                due("a step", x.sweep(1), 1);
                due("that are not freed", x.count(1), left[thing]);
                due("of thing " + thing, x.about(thing, 3), thing % 2 == 0 ? 1 : 0);
            }
            due("sweeping still", x.under(), 2);
            due("none left", x.sweep(1), 1);
            due("over", x.under(), 0);
            x.begin();
            due("freed ones are passed over", x.sweep(400), 2 + 1 + 2 + 1);
        }
    }

    private static void sweepingNewOnes() {
        for (int fault = 0; fault < 3; fault += 2) {
            fresh(1, fault);
            things(0);
            x.begin();
            x.sweep(3);
            due("sweeping, behind the last thing", x.under(), 2);
            x.make(0, 1, 0, false);
            x.make(0, 2, 0, false);
            due("both, and the end", x.sweep(400), 3);
            due("white ones are freed, black ones not", x.count(1), fault == 2 ? 1 : 3);
        }
    }

    private static void noneLeft() {
        for (int manner = 1; manner < 3; manner++) {
            fresh(manner, 0);
            things(0);
            x.begin();
            x.sweep(3);
            due("the last thing was passed", x.under(), 2);
            due("not over", x.count(7), 0);
            due("one step more", x.sweep(400), 1);
            due("over", x.under(), 0);
            due("a round", x.count(7), 1);
            dropAll(0);
            round();
            x.begin();
            due("all were freed: marking, and the end", x.sweep(400), 2);
        }
    }

    private static void upTo() {
        for (int n : new int[] {0, -1, 401, MOST, LEAST}) {
            fresh(1, 0);
            things(0);
            due("with none under way", x.sweep(n), BAD);
            x.begin();
            due("while marking", x.sweep(n), BAD);
            due("no step was done", x.count(8), 0);
            x.sweep(2);
            due("while sweeping", x.sweep(n), BAD);
            due("no step was done", x.count(8), 2);
        }
        fresh(1, 0);
        things(0);
        x.begin();
        due("three of four", x.sweep(3), 3);
        due("the fourth of three", x.sweep(3), 1);
        due("none", x.sweep(3), 0);
        x.begin();
        due("four of four", x.sweep(4), 4);
        due("it is over", x.under(), 0);
        x.begin();
        due("four of 400", x.sweep(400), 4);
    }

    private static void noneUnderWay() {
        for (int manner = 0; manner < 4; manner++) {
            fresh(manner, 0);
            things(0);
            due("before the first", x.sweep(1), 0);
            dropAll(0);
            round();
            long before = x.digest();
            int steps = x.count(8);
            due("after it", x.sweep(1), 0);
            due("after it", x.sweep(400), 0);
            due("nothing is changed", x.digest(), before);
            due("no step was done", x.count(8), steps);
        }
    }

    private static void longRound() {
        int[] steps = {0, 1 + 120 + 1 + 120 + 1, 1 + 120 + 1 + 120 + 1};
        for (int manner = 1; manner < 3; manner++) {
            fresh(manner, 0);
            for (int thing = 0; thing < 120; thing++) {
                x.make(0, 0, 0, true);
            }
            dropAll(0);
            x.begin();
            due("all but the last", x.sweep(steps[manner] - 1), steps[manner] - 1);
            due("sweeping", x.under(), 2);
            due("the last", x.sweep(400), 1);
            due("shaded", x.count(9), 120);
            x.begin();
            due("at once", x.sweep(400), 120 + 1 + 120 + 1);
        }
    }

    private static void under() {
        for (int manner = 0; manner < 4; manner++) {
            fresh(manner, 0);
            things(0);
            due("before the first", x.under(), 0);
            x.begin();
            due("as it begins", x.under(), manner == 0 ? 0 : 1);
            x.sweep(1);
            due("before the last step of marking", x.under(), manner == 0 ? 0 : 1);
            x.sweep(1);
            due("behind it", x.under(), manner == 0 || manner == 3 ? 0 : 2);
            x.sweep(1);
            due("before the last step of sweeping", x.under(), manner == 0 || manner == 3 ? 0 : 2);
            x.sweep(1);
            due("behind it", x.under(), 0);
        }
    }

    private static void roundsOver() {
        for (int manner = 0; manner < 4; manner++) {
            fresh(manner, 0);
            due("none", x.count(7), 0);
            round();
            due("one", x.count(7), 1);
            x.begin();
            due("the one under way does not count", x.count(7), manner == 0 ? 2 : 1);
            x.sweep(400);
            due("two", x.count(7), 2);
            x.attic(manner, 0);
            due("in the next attic", x.count(7), 0);
        }
    }

    private static void stepsAndShaded() {
        for (int manner = 1; manner < 4; manner++) {
            int steps = manner == 3 ? 2 : 4;
            fresh(manner, 0);
            things(0);
            due("no step yet", x.count(8), 0);
            due("none shaded yet", x.count(9), 0);
            x.begin();
            due("no step as it begins", x.count(8), 0);
            due("shaded as it begins", x.count(9), 1);
            due("steps", x.sweep(400), steps);
            due("of the latest", x.count(8), steps);
            due("shaded in the latest", x.count(9), 1);
            dropAll(0);
            x.begin();
            due("none of the next yet", x.count(8), 0);
            due("none shaded in it", x.count(9), 0);
        }
    }

    private static void atticInTheMidst() {
        for (int manner = 1; manner < 4; manner++) {
            for (int steps = 1; steps < (manner == 3 ? 3 : 5); steps++) {
                fresh(manner, 0);
                things(0, 1, 0);
                dropAll(2);
                x.begin();
                x.sweep(steps);
                due("under", x.under(), manner == 3 || steps < 3 ? 1 : 2);
                due("how many there were", x.attic(manner, 0), 3);
                due("nothing is under way", x.under(), 0);
                due("no step", x.sweep(400), 0);
                for (int what : new int[] {0, 7, 8, 9, 10}) {
                    due("count " + what, x.count(what), 0);
                }
                things(0, 0);
                placesAre(0, 1);
                coloursAre("new ones", WHITE, WHITE);
                due("not moved", x.about(0, 6) + x.about(1, 6), 0);
                dropAll(0);
                due("a round", x.begin(), 1);
                due("of all its steps", x.sweep(400), manner == 3 ? 2 : 5);
                due("which frees what is not held", x.about(0, 3), 1);
            }
        }
    }
}
