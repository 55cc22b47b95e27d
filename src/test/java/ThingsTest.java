/** The edges of things, their numbers, fields, cells and places: one test for each sentence that names one. */
public final class ThingsTest extends Scene {
    public static void main(String[] args) {
        test("A THING of n FIELDS (0 .. 6) takes n + 1 CELLS, one behind the other", ThingsTest::cells);
        test("n FIELDS (0 .. 6)", ThingsTest::numberOfFields);
        test("its PLACE is the first of its CELLS", ThingsTest::placeIsFirst);
        test("THINGS are numbered from 0 on as they are made", ThingsTest::numbers);
        test("THINGS, 120 at most", ThingsTest::lastThing);
        test("THINGS, 120 at most, in halves", ThingsTest::lastThingInHalves);
        test("attic: how many THINGS there were", ThingsTest::howManyThereWere);
        test("a FIELD holds nothing at first", ThingsTest::fieldsAtFirst);
        test("a REGISTER holds the new THING", ThingsTest::everyRegister);
        test("with or without a LAST WISH", ThingsTest::withOrWithoutWish);
        test("the least PLACE where all its CELLS are free", ThingsTest::leastPlace);
        test("the least PLACE: one CELL too few", ThingsTest::oneCellTooFew);
        test("THE ATTIC has 200 CELLS: the last of them", ThingsTest::lastCells);
        test("FULL: there is no PLACE, though there are free CELLS", ThingsTest::gapsDoNotJoin);
        test("HALVES of CELLS 0 .. 99 and 100 .. 199: the first is at hand", ThingsTest::firstHalf);
        test("HALVES: the last CELL of the first", ThingsTest::lastCellOfFirstHalf);
        test("HALVES: the second", ThingsTest::secondHalf);
        test("HALVES: the first is at hand again, with nothing in it", ThingsTest::firstHalfAgain);
        test("a new THING comes behind all that came to the HALF at hand", ThingsTest::behindAll);
        test("behind all that came, FREED ones, too", ThingsTest::behindFreedOnes);
        test("FULL while MARKING if the CELLS left would be fewer than those of WHITE THINGS", ThingsTest::roomForWhite);
        test("FULL while MARKING: one CELL fewer", ThingsTest::roomForWhiteMissed);
        test("WHITE THINGS that are not FREED", ThingsTest::freedNeedNoRoom);
        test("GRAY and BLACK ones need no room", ThingsTest::markedNeedNoRoom);
        test("while MARKING is under way, not before it", ThingsTest::noRoomKeptBefore);
        test("the CELLS that would then be left, and the WHITE ones then", ThingsTest::whiteNewOneNeedsRoom);
        test("A FREED one has no PLACE (NONE), its CELLS are free", ThingsTest::freed);
        finish();
    }

    private static void cells() {
        for (int n = 0; n <= 6; n++) {
            fresh(0, 0);
            things(n, 0);
            due("how many fields", x.about(0, 0), n);
            for (int k = 0; k <= n; k++) {
                due("cell " + k + " of n " + n, x.cell(k), 0);
            }
            cellsAre(n + 1, 1, NONE);
            due("free cells", x.count(5), 200 - n - 2);
        }
    }

    private static void numberOfFields() {
        for (int manner = 0; manner < 4; manner++) {
            fresh(manner, 0);
            due("one below", x.make(0, 0, -1, false), BAD);
            due("one above", x.make(0, 0, 7, false), BAD);
            due("none was made", x.count(0), 0);
            due("the least", x.make(0, 0, 0, false), 0);
            due("the greatest", x.make(0, 1, 6, false), 1);
        }
    }

    private static void placeIsFirst() {
        fresh(0, 0);
        things(6, 0, 2);
        placesAre(0, 7, 8);
        cellsAre(6, 0, 1, 2, 2, 2, NONE);
        fresh(3, 0);
        things(6, 0, 2);
        placesAre(0, 7, 8);
        cellsAre(6, 0, 1, 2, 2, 2, NONE);
    }

    private static void numbers() {
        for (int manner = 0; manner < 4; manner++) {
            fresh(manner, 0);
            things(0);
            dropAll(0);
            round();
            due("it is freed", x.about(0, 3), 1);
            due("its number is not given again", x.make(0, 0, 0, false), 1);
            due("things ever", x.count(0), 2);
            due("the first is freed still", x.about(0, 3), 1);
        }
    }

    private static void lastThing() {
        for (int manner = 0; manner < 3; manner++) {
            fresh(manner, 0);
            for (int thing = 0; thing < 120; thing++) {
                due("make", x.make(0, 0, 0, false), thing);
            }
            due("cells are left", x.count(5), 80);
            due("the 121st", x.make(0, 1, 0, false), FULL);
            due("none was made", x.count(0), 120);
            due("the register is as it was", x.holder(1), NONE);
            due("the last thing", x.about(119, 0), 0);
            due("none behind it", x.about(120, 0), BAD);
        }
    }

    private static void lastThingInHalves() {
        fresh(3, 0);
        for (int thing = 0; thing < 100; thing++) {
            due("make", x.make(0, 0, 0, false), thing);
        }
        due("no cell is left", x.make(0, 0, 0, false), FULL);
        due("none was made", x.count(0), 100);
        dropAll(0);
        round();
        due("all are freed", x.count(1), 0);
        for (int thing = 100; thing < 120; thing++) {
            due("make", x.make(0, 0, 0, false), thing);
        }
        due("cells are left", x.count(5), 80);
        due("the 121st", x.make(0, 0, 0, false), FULL);
    }

    private static void howManyThereWere() {
        fresh(0, 0);
        due("none", x.attic(0, 0), 0);
        for (int thing = 0; thing < 120; thing++) {
            x.make(0, 0, 0, false);
        }
        round();
        due("all but one are freed", x.count(1), 1);
        due("a refused call", x.attic(4, 0), BAD);
        due("all, freed ones too", x.attic(0, 0), 120);
        due("none again", x.attic(0, 0), 0);
        due("the first again", x.make(0, 0, 0, false), 0);
    }

    private static void fieldsAtFirst() {
        fresh(0, 0);
        things(6);
        for (int i = 0; i < 6; i++) {
            due("field " + i, x.field(0, i), NONE);
            due("put", x.put(0, 0, i, 0), 1);
        }
        dropAll(0);
        due("freed, though it holds itself", x.begin(), 1);
        due("make", x.make(0, 0, 6, false), 1);
        due("where the other was", x.about(1, 1), 0);
        for (int i = 0; i < 6; i++) {
            due("field " + i, x.field(1, i), NONE);
            due("as read", x.get(0, 1, 0, i), NONE);
        }
        x.attic(0, 0);
        things(6);
        for (int i = 0; i < 6; i++) {
            due("in the next attic, field " + i, x.field(0, i), NONE);
        }
    }

    private static void everyRegister() {
        fresh(0, 0);
        for (int k = 0; k < 12; k++) {
            due("make", x.make(k / 4, k % 4, 0, false), k);
            due("register " + k, x.holder(k), k);
            due("the next register", x.holder(k + 1), NONE);
        }
        due("what it held goes from it", x.make(2, 3, 0, false), 12);
        due("the register", x.holder(11), 12);
        due("not reached any more", x.about(11, 4), 0);
    }

    private static void withOrWithoutWish() {
        fresh(0, 0);
        x.make(0, 0, 0, true);
        x.make(0, 1, 0, false);
        due("with", x.about(0, 5), 1);
        due("without", x.about(1, 5), 0);
        x.attic(0, 0);
        x.make(0, 0, 0, false);
        due("in the next attic", x.about(0, 5), 0);
    }

    /** Cells 2 .. 4 and 6 .. 9 are free, and those from 11 on. */
    private static void gaps() {
        fresh(1, 0);
        things(1, 2, 0, 3, 0);
        dropAll(1, 3);
        round();
        cellsAre(1, 0, NONE, NONE, NONE, 2, NONE, NONE, NONE, NONE, 4, NONE);
    }

    private static void leastPlace() {
        gaps();
        x.make(1, 1, 2, false);
        due("the first gap, wholly", x.about(5, 1), 2);
        x.make(1, 2, 3, false);
        due("the second gap, wholly", x.about(6, 1), 6);
        x.make(1, 3, 0, false);
        due("behind all", x.about(7, 1), 11);
        gaps();
        x.make(1, 1, 0, false);
        due("the first gap", x.about(5, 1), 2);
        x.make(1, 2, 1, false);
        due("the rest of it", x.about(6, 1), 3);
    }

    private static void oneCellTooFew() {
        gaps();
        x.make(1, 1, 3, false);
        due("the first gap is too small", x.about(5, 1), 6);
        gaps();
        x.make(1, 1, 4, false);
        due("both gaps are too small", x.about(5, 1), 11);
        x.make(1, 2, 2, false);
        due("the first gap is there still", x.about(6, 1), 2);
    }

    /** So many things of seven cells. */
    private static void sevens(int many) {
        int first = x.count(0);
        for (int thing = first; thing < first + many; thing++) {
            due("make " + thing, x.make(0, 0, 6, false), thing);
        }
    }

    private static void lastCells() {
        fresh(0, 0);
        sevens(27);
        x.make(0, 0, 3, false);
        due("seven cells are enough", x.make(0, 1, 6, false), 28);
        due("its place", x.about(28, 1), 193);
        cellsAre(192, 27, 28, 28, 28, 28, 28, 28, 28, BAD);
        due("no cell is left", x.make(0, 2, 0, false), FULL);
        fresh(0, 0);
        sevens(27);
        x.make(0, 0, 4, false);
        due("six cells are too few for seven", x.make(0, 1, 6, false), FULL);
        due("six cells are enough for six", x.make(0, 1, 5, false), 28);
        due("its place", x.about(28, 1), 194);
        fresh(0, 0);
        sevens(28);
        x.make(0, 0, 2, false);
        due("one cell is too few for two", x.make(0, 1, 1, false), FULL);
        due("one cell is enough for one", x.make(0, 1, 0, false), 29);
        due("its place", x.about(29, 1), 199);
        due("no cell is left", x.make(0, 1, 0, false), FULL);
    }

    private static void gapsDoNotJoin() {
        fresh(0, 0);
        x.make(0, 0, 6, false);
        for (int thing = 1; thing < 28; thing++) {
            x.make(0, 1, 6, false);
            x.put(0, 1, 0, 0);
            x.move(0, 0, 1);
        }
        for (int r = 0; r < 4; r++) {
            due("make", x.make(1, r, 0, false), 28 + r);
        }
        due("no cell is left", x.count(5), 0);
        dropAll(4, 6);
        due("two are freed", x.begin(), 2);
        cellsAre(195, 27, NONE, 29, NONE, 31);
        due("two cells apart", x.make(2, 0, 1, false), FULL);
        due("the first of them", x.make(2, 0, 0, false), 32);
        due("its place", x.about(32, 1), 196);
        due("the other", x.make(2, 1, 0, false), 33);
        due("its place", x.about(33, 1), 198);
        due("none is left", x.make(2, 2, 0, false), FULL);
    }

    private static void firstHalf() {
        fresh(3, 0);
        due("its cells", x.count(5), 100);
        sevens(14);
        due("three cells do not reach over its end", x.make(0, 1, 2, false), FULL);
        due("two cells", x.make(0, 1, 1, false), 14);
        due("their place", x.about(14, 1), 98);
        cellsAre(97, 13, 14, 14, NONE);
        due("no cell is left", x.make(0, 2, 0, false), FULL);
        due("none is left", x.count(5), 0);
    }

    private static void lastCellOfFirstHalf() {
        fresh(3, 0);
        sevens(14);
        x.make(0, 1, 0, false);
        due("one cell is too few for two", x.make(0, 2, 1, false), FULL);
        due("one cell is enough for one", x.make(0, 2, 0, false), 15);
        due("its place", x.about(15, 1), 99);
        due("no cell is left", x.make(0, 3, 0, false), FULL);
    }

    private static void secondHalf() {
        fresh(3, 0);
        round();
        due("its cells", x.count(5), 100);
        due("the first there", x.make(0, 0, 0, false), 0);
        due("its place", x.about(0, 1), 100);
        sevens(14);
        due("two cells do not reach over its end", x.make(0, 1, 1, false), FULL);
        due("one cell", x.make(0, 1, 0, false), 15);
        due("its place", x.about(15, 1), 199);
        due("no cell is left", x.make(0, 2, 0, false), FULL);
    }

    private static void firstHalfAgain() {
        fresh(3, 0);
        things(2, 0);
        round();
        placesAre(100, 103);
        cellsAre(0, NONE, NONE, NONE, NONE);
        dropAll(1);
        round();
        placesAre(0, NONE);
        due("the rest of it", x.count(5), 97);
        cellsAre(100, NONE, NONE, NONE, NONE);
        x.make(0, 1, 0, false);
        due("behind what was moved there", x.about(2, 1), 3);
    }

    private static void behindAll() {
        fresh(3, 0);
        things(2, 1, 0);
        x.put(0, 0, 0, 1);
        dropAll(1, 2);
        due("one is gray", x.begin(), 1);
        x.make(1, 0, 1, false);
        due("behind the moved one", x.about(3, 1), 103);
        x.sweep(1);
        due("behind the new one", x.about(1, 1), 105);
        x.make(1, 1, 0, false);
        due("behind both", x.about(4, 1), 107);
        x.sweep(400);
        due("what is freed was in the other half", x.about(2, 3), 1);
        x.make(1, 2, 0, false);
        due("behind all when it is over", x.about(5, 1), 108);
    }

    private static void behindFreedOnes() {
        fresh(3, 2);
        x.begin();
        due("a white one", x.make(0, 0, 3, false), 0);
        x.sweep(400);
        due("it is freed", x.about(0, 3), 1);
        cellsAre(100, NONE, NONE, NONE, NONE);
        due("its cells are not behind all that came", x.count(5), 96);
        x.make(0, 1, 0, false);
        due("behind it", x.about(1, 1), 104);
    }

    /** The half at hand has 14 cells left, and a white thing has seven, while marking is under way. */
    private static void fourteenLeft() {
        fresh(3, 0);
        things(1, 6);
        x.put(0, 0, 0, 1);
        dropAll(1);
        due("one is gray", x.begin(), 1);
        sevens(12);
        due("cells that are left", x.count(5), 14);
    }

    private static void roomForWhite() {
        fourteenLeft();
        due("as many as the white one's would be left", x.make(0, 0, 6, false), 14);
        due("fewer would be left", x.make(0, 0, 0, false), FULL);
        due("cells that are left", x.count(5), 7);
        x.sweep(1);
        due("the white one's place", x.about(1, 1), 193);
        due("no cell is left", x.count(5), 0);
        due("there is no place", x.make(0, 0, 0, false), FULL);
    }

    private static void roomForWhiteMissed() {
        fourteenLeft();
        due("one cell is taken", x.make(0, 0, 0, false), 14);
        due("one fewer than the white one's would be left", x.make(0, 0, 6, false), FULL);
        due("as many as the white one's would be left", x.make(0, 0, 5, false), 15);
        due("one fewer would be left", x.make(0, 0, 0, false), FULL);
    }

    private static void freedNeedNoRoom() {
        fresh(3, 0);
        things(0, 6);
        dropAll(1);
        round();
        due("one is freed", x.about(1, 3), 1);
        due("it is white", x.about(1, 2), WHITE);
        x.begin();
        sevens(14);
        due("the last cell", x.make(0, 0, 0, false), 16);
        due("no cell is left", x.count(5), 0);
    }

    private static void markedNeedNoRoom() {
        fresh(3, 0);
        things(0, 6);
        due("two are gray", x.begin(), 2);
        x.sweep(1);
        coloursAre("one is black", BLACK, GRAY);
        sevens(13);
        due("the last cell", x.make(0, 0, 0, false), 15);
        due("no cell is left", x.count(5), 0);
    }

    private static void noRoomKeptBefore() {
        fresh(3, 0);
        sevens(14);
        due("the last two cells", x.make(0, 1, 1, false), 14);
        due("all are white", x.about(0, 2) + x.about(14, 2), WHITE);
    }

    private static void whiteNewOneNeedsRoom() {
        fresh(3, 2);
        x.begin();
        sevens(7);
        due("white ones of 49 cells, and 51 left", x.count(5), 51);
        due("49 would be left for 51", x.make(0, 0, 1, false), FULL);
        due("50 are left for 50", x.make(0, 0, 0, false), 7);
        due("49 would be left for 51", x.make(0, 0, 0, false), FULL);
    }

    private static void freed() {
        fresh(1, 0);
        things(2, 1);
        dropAll(0);
        x.begin();
        x.sweep(2);
        due("sweeping", x.under(), 2);
        placesAre(0, 3);
        cellsAre(0, 0, 0, 0, 1);
        x.sweep(1);
        placesAre(NONE, 3);
        cellsAre(0, NONE, NONE, NONE, 1);
        due("a new one at once", x.make(0, 0, 2, false), 2);
        due("in its place", x.about(2, 1), 0);
        due("none of the freed one's", x.about(0, 1), NONE);
    }
}
